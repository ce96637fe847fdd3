section
theorem ggL_put_X4_put : GoodIn wsL_put wsX4_put := tgCall 835 e_X4_put (by decide +kernel)
theorem gL_put_X4_put : GoodIn wsL_put (wsV RL 7 RX4 yX4_put wsX4_put) := goodIn_app (tgIn [832, 833, 834, 421] (by decide +kernel) rfl) ggL_put_X4_put
theorem ggL_putAt_X4_putAt : GoodIn wsL_putAt wsX4_putAt := tgCall 839 e_X4_putAt (by decide +kernel)
theorem gL_putAt_X4_putAt : GoodIn wsL_putAt (wsV RL 23 RX4 yX4_putAt wsX4_putAt) := goodIn_app (tgIn [836, 837, 838, 421] (by decide +kernel) rfl) ggL_putAt_X4_putAt
theorem ggL_fill_X4_fill : GoodIn wsL_fill wsX4_fill := tgCall 843 e_X4_fill (by decide +kernel)
theorem gL_fill_X4_fill : GoodIn wsL_fill (wsV RL 27 RX4 yX4_fill wsX4_fill) := goodIn_app (tgIn [840, 841, 842, 421] (by decide +kernel) rfl) ggL_fill_X4_fill
theorem ggL_drop_X4_drop : GoodIn wsL_drop wsX4_drop := tgCall 847 e_X4_drop (by decide +kernel)
theorem gL_drop_X4_drop : GoodIn wsL_drop (wsV RL 31 RX4 yX4_drop wsX4_drop) := goodIn_app (tgIn [844, 845, 846, 421] (by decide +kernel) rfl) ggL_drop_X4_drop
theorem ggL_clear_X4_clear : GoodIn wsL_clear wsX4_clear := tgCall 1026 e_X4_clear (by decide +kernel)
theorem gL_clear_X4_clear : GoodIn wsL_clear (wsV RL 34 RX4 yX4_clear wsX4_clear) := goodIn_app (tgIn [1023, 1024, 1025, 421] (by decide +kernel) rfl) ggL_clear_X4_clear
theorem ggL_copyRow_X4_copyRow : GoodIn wsL_copyRow wsX4_copyRow := tgCall 851 e_X4_copyRow (by decide +kernel)
theorem gL_copyRow_X4_copyRow : GoodIn wsL_copyRow (wsV RL 38 RX4 yX4_copyRow wsX4_copyRow) := goodIn_app (tgIn [848, 849, 850, 421] (by decide +kernel) rfl) ggL_copyRow_X4_copyRow
theorem ggL_turnRow_X4_turnRow : GoodIn wsL_turnRow wsX4_turnRow := tgCall 855 e_X4_turnRow (by decide +kernel)
theorem gL_turnRow_X4_turnRow : GoodIn wsL_turnRow (wsV RL 41 RX4 yX4_turnRow wsX4_turnRow) := goodIn_app (tgIn [852, 853, 854, 421] (by decide +kernel) rfl) ggL_turnRow_X4_turnRow
theorem ggL_wheel_X4_wheel : GoodIn wsL_wheel wsX4_wheel := tgCall 859 e_X4_wheel (by decide +kernel)
theorem gL_wheel_X4_wheel : GoodIn wsL_wheel (wsV RL 44 RX4 yX4_wheel wsX4_wheel) := goodIn_app (tgIn [856, 857, 858, 421] (by decide +kernel) rfl) ggL_wheel_X4_wheel
theorem ggL_swap_X4_swap : GoodIn wsL_swap wsX4_swap := tgCall 863 e_X4_swap (by decide +kernel)
theorem gL_swap_X4_swap : GoodIn wsL_swap (wsV RL 47 RX4 yX4_swap wsX4_swap) := goodIn_app (tgIn [860, 861, 862, 421] (by decide +kernel) rfl) ggL_swap_X4_swap
theorem ggL_sort_X4_sort : GoodIn wsL_sort wsX4_sort := tgCall 867 e_X4_sort (by decide +kernel)
theorem gL_sort_X4_sort : GoodIn wsL_sort (wsV RL 50 RX4 yX4_sort wsX4_sort) := goodIn_app (tgIn [864, 865, 866, 421] (by decide +kernel) rfl) ggL_sort_X4_sort
theorem ggL_sortPart_X4_sortPart : GoodIn wsL_sortPart wsX4_sortPart := tgCall 871 e_X4_sortPart (by decide +kernel)
theorem gL_sortPart_X4_sortPart : GoodIn wsL_sortPart (wsV RL 53 RX4 yX4_sortPart wsX4_sortPart) := goodIn_app (tgIn [868, 869, 870, 421] (by decide +kernel) rfl) ggL_sortPart_X4_sortPart
theorem ggL_isSorted_X4_isSorted : GoodIn wsL_isSorted wsX4_isSorted := tgCall 875 e_X4_isSorted (by decide +kernel)
theorem gL_isSorted_X4_isSorted : GoodIn wsL_isSorted (wsV RL 56 RX4 yX4_isSorted wsX4_isSorted) := goodIn_app (tgIn [872, 873, 874, 421] (by decide +kernel) rfl) ggL_isSorted_X4_isSorted
theorem ggL_size_X4_size : GoodIn wsL_size wsX4_size := tgCall 1087 e_X4_size (by decide +kernel)
theorem gL_size_X4_size : GoodIn wsL_size (wsV RL 60 RX4 yX4_size wsX4_size) := goodIn_app (tgIn [1084, 1085, 1086, 421] (by decide +kernel) rfl) ggL_size_X4_size
theorem ggL_valueAt_X4_valueAt : GoodIn wsL_valueAt wsX4_valueAt := tgCall 879 e_X4_valueAt (by decide +kernel)
theorem gL_valueAt_X4_valueAt : GoodIn wsL_valueAt (wsV RL 63 RX4 yX4_valueAt wsX4_valueAt) := goodIn_app (tgIn [876, 877, 878, 421] (by decide +kernel) rfl) ggL_valueAt_X4_valueAt
theorem ggL_markAt_X4_markAt : GoodIn wsL_markAt wsX4_markAt := tgCall 883 e_X4_markAt (by decide +kernel)
theorem gL_markAt_X4_markAt : GoodIn wsL_markAt (wsV RL 66 RX4 yX4_markAt wsX4_markAt) := goodIn_app (tgIn [880, 881, 882, 421] (by decide +kernel) rfl) ggL_markAt_X4_markAt
theorem ggL_text_X4_text : GoodIn wsL_text wsX4_text := tgCall 887 e_X4_text (by decide +kernel)
theorem gL_text_X4_text : GoodIn wsL_text (wsV RL 69 RX4 yX4_text wsX4_text) := goodIn_app (tgIn [884, 885, 886, 421] (by decide +kernel) rfl) ggL_text_X4_text
theorem ggL_extreme_X4_extreme : GoodIn wsL_extreme wsX4_extreme := tgCall 891 e_X4_extreme (by decide +kernel)
theorem gL_extreme_X4_extreme : GoodIn wsL_extreme (wsV RL 77 RX4 yX4_extreme wsX4_extreme) := goodIn_app (tgIn [888, 889, 890, 421] (by decide +kernel) rfl) ggL_extreme_X4_extreme
theorem ggL_search_X4_search : GoodIn wsL_search wsX4_search := tgCall 895 e_X4_search (by decide +kernel)
theorem gL_search_X4_search : GoodIn wsL_search (wsV RL 81 RX4 yX4_search wsX4_search) := goodIn_app (tgIn [892, 893, 894, 421] (by decide +kernel) rfl) ggL_search_X4_search
theorem ggL_near_X4_near : GoodIn wsL_near wsX4_near := tgCall 899 e_X4_near (by decide +kernel)
theorem gL_near_X4_near : GoodIn wsL_near (wsV RL 84 RX4 yX4_near wsX4_near) := goodIn_app (tgIn [896, 897, 898, 421] (by decide +kernel) rfl) ggL_near_X4_near
theorem ggL_kinds_X4_kinds : GoodIn wsL_kinds wsX4_kinds := tgCall 903 e_X4_kinds (by decide +kernel)
theorem gL_kinds_X4_kinds : GoodIn wsL_kinds (wsV RL 87 RX4 yX4_kinds wsX4_kinds) := goodIn_app (tgIn [900, 901, 902, 421] (by decide +kernel) rfl) ggL_kinds_X4_kinds
theorem ggL_ahead_X4_ahead : GoodIn wsL_ahead wsX4_ahead := tgCall 907 e_X4_ahead (by decide +kernel)
theorem gL_ahead_X4_ahead : GoodIn wsL_ahead (wsV RL 90 RX4 yX4_ahead wsX4_ahead) := goodIn_app (tgIn [904, 905, 906, 421] (by decide +kernel) rfl) ggL_ahead_X4_ahead
theorem ggL_groups_X4_groups : GoodIn wsL_groups wsX4_groups := tgCall 911 e_X4_groups (by decide +kernel)
theorem gL_groups_X4_groups : GoodIn wsL_groups (wsV RL 93 RX4 yX4_groups wsX4_groups) := goodIn_app (tgIn [908, 909, 910, 421] (by decide +kernel) rfl) ggL_groups_X4_groups
theorem ggL_ranks_X4_ranks : GoodIn wsL_ranks wsX4_ranks := tgCall 915 e_X4_ranks (by decide +kernel)
theorem gL_ranks_X4_ranks : GoodIn wsL_ranks (wsV RL 97 RX4 yX4_ranks wsX4_ranks) := goodIn_app (tgIn [912, 913, 914, 421] (by decide +kernel) rfl) ggL_ranks_X4_ranks
theorem ggL_step_X4_step : GoodIn wsL_step wsX4_step := tgCall 919 e_X4_step (by decide +kernel)
theorem gL_step_X4_step : GoodIn wsL_step (wsV RL 101 RX4 yX4_step wsX4_step) := goodIn_app (tgIn [916, 917, 918, 421] (by decide +kernel) rfl) ggL_step_X4_step
theorem ggL_unstep_X4_unstep : GoodIn wsL_unstep wsX4_unstep := tgCall 923 e_X4_unstep (by decide +kernel)
theorem gL_unstep_X4_unstep : GoodIn wsL_unstep (wsV RL 104 RX4 yX4_unstep wsX4_unstep) := goodIn_app (tgIn [920, 921, 922, 421] (by decide +kernel) rfl) ggL_unstep_X4_unstep
theorem ggL_wipe_X4_wipe : GoodIn wsL_wipe wsX4_wipe := tgCall 927 e_X4_wipe (by decide +kernel)
theorem gL_wipe_X4_wipe : GoodIn wsL_wipe (wsV RL 107 RX4 yX4_wipe wsX4_wipe) := goodIn_app (tgIn [924, 925, 926, 421] (by decide +kernel) rfl) ggL_wipe_X4_wipe
theorem ggL_copyOrder_X4_copyOrder : GoodIn wsL_copyOrder wsX4_copyOrder := tgCall 931 e_X4_copyOrder (by decide +kernel)
theorem gL_copyOrder_X4_copyOrder : GoodIn wsL_copyOrder (wsV RL 110 RX4 yX4_copyOrder wsX4_copyOrder) := goodIn_app (tgIn [928, 929, 930, 421] (by decide +kernel) rfl) ggL_copyOrder_X4_copyOrder
theorem ggL_turn_X4_turn : GoodIn wsL_turn wsX4_turn := tgCall 935 e_X4_turn (by decide +kernel)
theorem gL_turn_X4_turn : GoodIn wsL_turn (wsV RL 113 RX4 yX4_turn wsX4_turn) := goodIn_app (tgIn [932, 933, 934, 421] (by decide +kernel) rfl) ggL_turn_X4_turn
theorem ggL_product_X4_product : GoodIn wsL_product wsX4_product := tgCall 939 e_X4_product (by decide +kernel)
theorem gL_product_X4_product : GoodIn wsL_product (wsV RL 116 RX4 yX4_product wsX4_product) := goodIn_app (tgIn [936, 937, 938, 421] (by decide +kernel) rfl) ggL_product_X4_product
theorem ggL_tellApart_X4_tellApart : GoodIn wsL_tellApart wsX4_tellApart := tgCall 943 e_X4_tellApart (by decide +kernel)
theorem gL_tellApart_X4_tellApart : GoodIn wsL_tellApart (wsV RL 119 RX4 yX4_tellApart wsX4_tellApart) := goodIn_app (tgIn [940, 941, 942, 421] (by decide +kernel) rfl) ggL_tellApart_X4_tellApart
theorem ggL_orderText_X4_orderText : GoodIn wsL_orderText wsX4_orderText := tgCall 947 e_X4_orderText (by decide +kernel)
theorem gL_orderText_X4_orderText : GoodIn wsL_orderText (wsV RL 122 RX4 yX4_orderText wsX4_orderText) := goodIn_app (tgIn [944, 945, 946, 421] (by decide +kernel) rfl) ggL_orderText_X4_orderText
theorem ggL_compare_X4_compare : GoodIn wsL_compare wsX4_compare := tgCall 951 e_X4_compare (by decide +kernel)
theorem gL_compare_X4_compare : GoodIn wsL_compare (wsV RL 125 RX4 yX4_compare wsX4_compare) := goodIn_app (tgIn [948, 949, 950, 421] (by decide +kernel) rfl) ggL_compare_X4_compare
theorem ggL_both_X4_both : GoodIn wsL_both wsX4_both := tgCall 955 e_X4_both (by decide +kernel)
theorem gL_both_X4_both : GoodIn wsL_both (wsV RL 128 RX4 yX4_both wsX4_both) := goodIn_app (tgIn [952, 953, 954, 421] (by decide +kernel) rfl) ggL_both_X4_both
theorem ggL_refines_X4_refines : GoodIn wsL_refines wsX4_refines := tgCall 1238 e_X4_refines (by decide +kernel)
theorem gL_refines_X4_refines : GoodIn wsL_refines (wsV RL 131 RX4 yX4_refines wsX4_refines) := goodIn_app (tgIn [1235, 1236, 1237, 421] (by decide +kernel) rfl) ggL_refines_X4_refines
theorem ggL_areSame_X4_areSame : GoodIn wsL_areSame wsX4_areSame := tgCall 1249 e_X4_areSame (by decide +kernel)
theorem gL_areSame_X4_areSame : GoodIn wsL_areSame (wsV RL 134 RX4 yX4_areSame wsX4_areSame) := goodIn_app (tgIn [1246, 1247, 1248, 421] (by decide +kernel) rfl) ggL_areSame_X4_areSame
theorem ggL_apart_X4_apart : GoodIn wsL_apart wsX4_apart := tgCall 959 e_X4_apart (by decide +kernel)
theorem gL_apart_X4_apart : GoodIn wsL_apart (wsV RL 137 RX4 yX4_apart wsX4_apart) := goodIn_app (tgIn [956, 957, 958, 421] (by decide +kernel) rfl) ggL_apart_X4_apart
theorem ggL_classes_X4_classes : GoodIn wsL_classes wsX4_classes := tgCall 1271 e_X4_classes (by decide +kernel)
theorem gL_classes_X4_classes : GoodIn wsL_classes (wsV RL 140 RX4 yX4_classes wsX4_classes) := goodIn_app (tgIn [1268, 1269, 1270, 421] (by decide +kernel) rfl) ggL_classes_X4_classes
theorem ggL_rank_X4_rank : GoodIn wsL_rank wsX4_rank := tgCall 963 e_X4_rank (by decide +kernel)
theorem gL_rank_X4_rank : GoodIn wsL_rank (wsV RL 143 RX4 yX4_rank wsX4_rank) := goodIn_app (tgIn [960, 961, 962, 421] (by decide +kernel) rfl) ggL_rank_X4_rank
theorem ggL_keyOf_X4_keyOf : GoodIn wsL_keyOf wsX4_keyOf := tgCall 967 e_X4_keyOf (by decide +kernel)
theorem gL_keyOf_X4_keyOf : GoodIn wsL_keyOf (wsV RL 146 RX4 yX4_keyOf wsX4_keyOf) := goodIn_app (tgIn [964, 965, 966, 421] (by decide +kernel) rfl) ggL_keyOf_X4_keyOf
theorem ggL_house_X4_house : GoodIn wsL_house wsX4_house := tgCall 971 e_X4_house (by decide +kernel)
theorem gL_house_X4_house : GoodIn wsL_house (wsV RL 149 RX4 yX4_house wsX4_house) := goodIn_app (tgIn [968, 969, 970, 421] (by decide +kernel) rfl) ggL_house_X4_house
end
section
theorem pl_L : plainName RL = true := by decide +kernel
theorem pl_X0 : plainName RX0 = true := by decide +kernel
theorem pl_X1 : plainName RX1 = true := by decide +kernel
theorem pl_X2 : plainName RX2 = true := by decide +kernel
theorem pl_X3 : plainName RX3 = true := by decide +kernel
theorem pl_X4 : plainName RX4 = true := by decide +kernel
theorem pl_X5 : plainName RX5 = true := by decide +kernel
theorem pl_X6 : plainName RX6 = true := by decide +kernel
theorem hdJ0_coder_7d493_0 : yJ0_coder_7d493.cls = RJ0 ∧ yJ0_coder_7d493.cls ≠ "java/lang/invoke/MethodHandle" ∧ yJ0_coder_7d493.cls ≠ "java/lang/invoke/VarHandle" ∧ (parseMethodDescriptor yJ0_coder_7d493.desc).map (fun d => d.parameters.length) = some 0 := by decide +kernel
theorem hdJ0_getBytes_840e7_3 : yJ0_getBytes_840e7.cls = RJ0 ∧ yJ0_getBytes_840e7.cls ≠ "java/lang/invoke/MethodHandle" ∧ yJ0_getBytes_840e7.cls ≠ "java/lang/invoke/VarHandle" ∧ (parseMethodDescriptor yJ0_getBytes_840e7.desc).map (fun d => d.parameters.length) = some 3 := by decide +kernel
theorem hdJ0_isEmpty_aae02_0 : yJ0_isEmpty_aae02.cls = RJ0 ∧ yJ0_isEmpty_aae02.cls ≠ "java/lang/invoke/MethodHandle" ∧ yJ0_isEmpty_aae02.cls ≠ "java/lang/invoke/VarHandle" ∧ (parseMethodDescriptor yJ0_isEmpty_aae02.desc).map (fun d => d.parameters.length) = some 0 := by decide +kernel
theorem hdJ0_length_8abf5_0 : yJ0_length_8abf5.cls = RJ0 ∧ yJ0_length_8abf5.cls ≠ "java/lang/invoke/MethodHandle" ∧ yJ0_length_8abf5.cls ≠ "java/lang/invoke/VarHandle" ∧ (parseMethodDescriptor yJ0_length_8abf5.desc).map (fun d => d.parameters.length) = some 0 := by decide +kernel
theorem hdJ1_canEncode_fc78d_1 : yJ1_canEncode_fc78d.cls = RJ1 ∧ yJ1_canEncode_fc78d.cls ≠ "java/lang/invoke/MethodHandle" ∧ yJ1_canEncode_fc78d.cls ≠ "java/lang/invoke/VarHandle" ∧ (parseMethodDescriptor yJ1_canEncode_fc78d.desc).map (fun d => d.parameters.length) = some 1 := by decide +kernel
theorem hdJ4_append_15ec4_1 : yJ4_append_15ec4.cls = RJ4 ∧ yJ4_append_15ec4.cls ≠ "java/lang/invoke/MethodHandle" ∧ yJ4_append_15ec4.cls ≠ "java/lang/invoke/VarHandle" ∧ (parseMethodDescriptor yJ4_append_15ec4.desc).map (fun d => d.parameters.length) = some 1 := by decide +kernel
theorem hdJ4_append_bf812_1 : yJ4_append_bf812.cls = RJ4 ∧ yJ4_append_bf812.cls ≠ "java/lang/invoke/MethodHandle" ∧ yJ4_append_bf812.cls ≠ "java/lang/invoke/VarHandle" ∧ (parseMethodDescriptor yJ4_append_bf812.desc).map (fun d => d.parameters.length) = some 1 := by decide +kernel
theorem hdJ4_append_cf468_1 : yJ4_append_cf468.cls = RJ4 ∧ yJ4_append_cf468.cls ≠ "java/lang/invoke/MethodHandle" ∧ yJ4_append_cf468.cls ≠ "java/lang/invoke/VarHandle" ∧ (parseMethodDescriptor yJ4_append_cf468.desc).map (fun d => d.parameters.length) = some 1 := by decide +kernel
theorem hdJ4_length_8abf5_0 : yJ4_length_8abf5.cls = RJ4 ∧ yJ4_length_8abf5.cls ≠ "java/lang/invoke/MethodHandle" ∧ yJ4_length_8abf5.cls ≠ "java/lang/invoke/VarHandle" ∧ (parseMethodDescriptor yJ4_length_8abf5.desc).map (fun d => d.parameters.length) = some 0 := by decide +kernel
theorem hdJ4_toString_0e30d_0 : yJ4_toString_0e30d.cls = RJ4 ∧ yJ4_toString_0e30d.cls ≠ "java/lang/invoke/MethodHandle" ∧ yJ4_toString_0e30d.cls ≠ "java/lang/invoke/VarHandle" ∧ (parseMethodDescriptor yJ4_toString_0e30d.desc).map (fun d => d.parameters.length) = some 0 := by decide +kernel
theorem hdJ6_bitCount_0f7a4_1 : yJ6_bitCount_0f7a4.cls = RJ6 ∧ yJ6_bitCount_0f7a4.cls ≠ "java/lang/invoke/MethodHandle" ∧ yJ6_bitCount_0f7a4.cls ≠ "java/lang/invoke/VarHandle" ∧ (parseMethodDescriptor yJ6_bitCount_0f7a4.desc).map (fun d => d.parameters.length) = some 1 := by decide +kernel
theorem hdJ6_getChars_ba4f3_3 : yJ6_getChars_ba4f3.cls = RJ6 ∧ yJ6_getChars_ba4f3.cls ≠ "java/lang/invoke/MethodHandle" ∧ yJ6_getChars_ba4f3.cls ≠ "java/lang/invoke/VarHandle" ∧ (parseMethodDescriptor yJ6_getChars_ba4f3.desc).map (fun d => d.parameters.length) = some 3 := by decide +kernel
theorem hdJ6_stringSize_0f7a4_1 : yJ6_stringSize_0f7a4.cls = RJ6 ∧ yJ6_stringSize_0f7a4.cls ≠ "java/lang/invoke/MethodHandle" ∧ yJ6_stringSize_0f7a4.cls ≠ "java/lang/invoke/VarHandle" ∧ (parseMethodDescriptor yJ6_stringSize_0f7a4.desc).map (fun d => d.parameters.length) = some 1 := by decide +kernel
theorem hdJ7_checkLength_df160_2 : yJ7_checkLength_df160.cls = RJ7 ∧ yJ7_checkLength_df160.cls ≠ "java/lang/invoke/MethodHandle" ∧ yJ7_checkLength_df160.cls ≠ "java/lang/invoke/VarHandle" ∧ (parseMethodDescriptor yJ7_checkLength_df160.desc).map (fun d => d.parameters.length) = some 2 := by decide +kernel
theorem hdJ7_copyOfRangeByte_39247_3 : yJ7_copyOfRangeByte_39247.cls = RJ7 ∧ yJ7_copyOfRangeByte_39247.cls ≠ "java/lang/invoke/MethodHandle" ∧ yJ7_copyOfRangeByte_39247.cls ≠ "java/lang/invoke/VarHandle" ∧ (parseMethodDescriptor yJ7_copyOfRangeByte_39247.desc).map (fun d => d.parameters.length) = some 3 := by decide +kernel
theorem hdJ7_copyOfRange_39247_3 : yJ7_copyOfRange_39247.cls = RJ7 ∧ yJ7_copyOfRange_39247.cls ≠ "java/lang/invoke/MethodHandle" ∧ yJ7_copyOfRange_39247.cls ≠ "java/lang/invoke/VarHandle" ∧ (parseMethodDescriptor yJ7_copyOfRange_39247.desc).map (fun d => d.parameters.length) = some 3 := by decide +kernel
theorem hdJ7_copyOf_9075b_2 : yJ7_copyOf_9075b.cls = RJ7 ∧ yJ7_copyOf_9075b.cls ≠ "java/lang/invoke/MethodHandle" ∧ yJ7_copyOf_9075b.cls ≠ "java/lang/invoke/VarHandle" ∧ (parseMethodDescriptor yJ7_copyOf_9075b.desc).map (fun d => d.parameters.length) = some 2 := by decide +kernel
theorem hdJ8_newLength_cabcc_3 : yJ8_newLength_cabcc.cls = RJ8 ∧ yJ8_newLength_cabcc.cls ≠ "java/lang/invoke/MethodHandle" ∧ yJ8_newLength_cabcc.cls ≠ "java/lang/invoke/VarHandle" ∧ (parseMethodDescriptor yJ8_newLength_cabcc.desc).map (fun d => d.parameters.length) = some 3 := by decide +kernel
theorem hdJ9_floorMod_7cf53_2 : yJ9_floorMod_7cf53.cls = RJ9 ∧ yJ9_floorMod_7cf53.cls ≠ "java/lang/invoke/MethodHandle" ∧ yJ9_floorMod_7cf53.cls ≠ "java/lang/invoke/VarHandle" ∧ (parseMethodDescriptor yJ9_floorMod_7cf53.desc).map (fun d => d.parameters.length) = some 2 := by decide +kernel
theorem hdL_ahead_5 : yL_ahead.cls = RL ∧ yL_ahead.cls ≠ "java/lang/invoke/MethodHandle" ∧ yL_ahead.cls ≠ "java/lang/invoke/VarHandle" ∧ (parseMethodDescriptor yL_ahead.desc).map (fun d => d.parameters.length) = some 5 := by decide +kernel
theorem hdL_apart_4 : yL_apart.cls = RL ∧ yL_apart.cls ≠ "java/lang/invoke/MethodHandle" ∧ yL_apart.cls ≠ "java/lang/invoke/VarHandle" ∧ (parseMethodDescriptor yL_apart.desc).map (fun d => d.parameters.length) = some 4 := by decide +kernel
theorem hdL_areSame_4 : yL_areSame.cls = RL ∧ yL_areSame.cls ≠ "java/lang/invoke/MethodHandle" ∧ yL_areSame.cls ≠ "java/lang/invoke/VarHandle" ∧ (parseMethodDescriptor yL_areSame.desc).map (fun d => d.parameters.length) = some 4 := by decide +kernel
theorem hdL_both_6 : yL_both.cls = RL ∧ yL_both.cls ≠ "java/lang/invoke/MethodHandle" ∧ yL_both.cls ≠ "java/lang/invoke/VarHandle" ∧ (parseMethodDescriptor yL_both.desc).map (fun d => d.parameters.length) = some 6 := by decide +kernel
theorem hdL_classes_3 : yL_classes.cls = RL ∧ yL_classes.cls ≠ "java/lang/invoke/MethodHandle" ∧ yL_classes.cls ≠ "java/lang/invoke/VarHandle" ∧ (parseMethodDescriptor yL_classes.desc).map (fun d => d.parameters.length) = some 3 := by decide +kernel
theorem hdL_clear_3 : yL_clear.cls = RL ∧ yL_clear.cls ≠ "java/lang/invoke/MethodHandle" ∧ yL_clear.cls ≠ "java/lang/invoke/VarHandle" ∧ (parseMethodDescriptor yL_clear.desc).map (fun d => d.parameters.length) = some 3 := by decide +kernel
theorem hdL_compare_5 : yL_compare.cls = RL ∧ yL_compare.cls ≠ "java/lang/invoke/MethodHandle" ∧ yL_compare.cls ≠ "java/lang/invoke/VarHandle" ∧ (parseMethodDescriptor yL_compare.desc).map (fun d => d.parameters.length) = some 5 := by decide +kernel
theorem hdL_copyOrder_4 : yL_copyOrder.cls = RL ∧ yL_copyOrder.cls ≠ "java/lang/invoke/MethodHandle" ∧ yL_copyOrder.cls ≠ "java/lang/invoke/VarHandle" ∧ (parseMethodDescriptor yL_copyOrder.desc).map (fun d => d.parameters.length) = some 4 := by decide +kernel
theorem hdL_copyRow_4 : yL_copyRow.cls = RL ∧ yL_copyRow.cls ≠ "java/lang/invoke/MethodHandle" ∧ yL_copyRow.cls ≠ "java/lang/invoke/VarHandle" ∧ (parseMethodDescriptor yL_copyRow.desc).map (fun d => d.parameters.length) = some 4 := by decide +kernel
theorem hdL_drop_4 : yL_drop.cls = RL ∧ yL_drop.cls ≠ "java/lang/invoke/MethodHandle" ∧ yL_drop.cls ≠ "java/lang/invoke/VarHandle" ∧ (parseMethodDescriptor yL_drop.desc).map (fun d => d.parameters.length) = some 4 := by decide +kernel
theorem hdL_extreme_5 : yL_extreme.cls = RL ∧ yL_extreme.cls ≠ "java/lang/invoke/MethodHandle" ∧ yL_extreme.cls ≠ "java/lang/invoke/VarHandle" ∧ (parseMethodDescriptor yL_extreme.desc).map (fun d => d.parameters.length) = some 5 := by decide +kernel
theorem hdL_fill_6 : yL_fill.cls = RL ∧ yL_fill.cls ≠ "java/lang/invoke/MethodHandle" ∧ yL_fill.cls ≠ "java/lang/invoke/VarHandle" ∧ (parseMethodDescriptor yL_fill.desc).map (fun d => d.parameters.length) = some 6 := by decide +kernel
theorem hdL_groups_4 : yL_groups.cls = RL ∧ yL_groups.cls ≠ "java/lang/invoke/MethodHandle" ∧ yL_groups.cls ≠ "java/lang/invoke/VarHandle" ∧ (parseMethodDescriptor yL_groups.desc).map (fun d => d.parameters.length) = some 4 := by decide +kernel
theorem hdL_house_3 : yL_house.cls = RL ∧ yL_house.cls ≠ "java/lang/invoke/MethodHandle" ∧ yL_house.cls ≠ "java/lang/invoke/VarHandle" ∧ (parseMethodDescriptor yL_house.desc).map (fun d => d.parameters.length) = some 3 := by decide +kernel
theorem hdL_isSorted_4 : yL_isSorted.cls = RL ∧ yL_isSorted.cls ≠ "java/lang/invoke/MethodHandle" ∧ yL_isSorted.cls ≠ "java/lang/invoke/VarHandle" ∧ (parseMethodDescriptor yL_isSorted.desc).map (fun d => d.parameters.length) = some 4 := by decide +kernel
theorem hdL_keyOf_4 : yL_keyOf.cls = RL ∧ yL_keyOf.cls ≠ "java/lang/invoke/MethodHandle" ∧ yL_keyOf.cls ≠ "java/lang/invoke/VarHandle" ∧ (parseMethodDescriptor yL_keyOf.desc).map (fun d => d.parameters.length) = some 4 := by decide +kernel
theorem hdL_kinds_4 : yL_kinds.cls = RL ∧ yL_kinds.cls ≠ "java/lang/invoke/MethodHandle" ∧ yL_kinds.cls ≠ "java/lang/invoke/VarHandle" ∧ (parseMethodDescriptor yL_kinds.desc).map (fun d => d.parameters.length) = some 4 := by decide +kernel
theorem hdL_markAt_4 : yL_markAt.cls = RL ∧ yL_markAt.cls ≠ "java/lang/invoke/MethodHandle" ∧ yL_markAt.cls ≠ "java/lang/invoke/VarHandle" ∧ (parseMethodDescriptor yL_markAt.desc).map (fun d => d.parameters.length) = some 4 := by decide +kernel
theorem hdL_near_6 : yL_near.cls = RL ∧ yL_near.cls ≠ "java/lang/invoke/MethodHandle" ∧ yL_near.cls ≠ "java/lang/invoke/VarHandle" ∧ (parseMethodDescriptor yL_near.desc).map (fun d => d.parameters.length) = some 6 := by decide +kernel
theorem hdL_orderText_3 : yL_orderText.cls = RL ∧ yL_orderText.cls ≠ "java/lang/invoke/MethodHandle" ∧ yL_orderText.cls ≠ "java/lang/invoke/VarHandle" ∧ (parseMethodDescriptor yL_orderText.desc).map (fun d => d.parameters.length) = some 3 := by decide +kernel
theorem hdL_product_5 : yL_product.cls = RL ∧ yL_product.cls ≠ "java/lang/invoke/MethodHandle" ∧ yL_product.cls ≠ "java/lang/invoke/VarHandle" ∧ (parseMethodDescriptor yL_product.desc).map (fun d => d.parameters.length) = some 5 := by decide +kernel
theorem hdL_put_4 : yL_put.cls = RL ∧ yL_put.cls ≠ "java/lang/invoke/MethodHandle" ∧ yL_put.cls ≠ "java/lang/invoke/VarHandle" ∧ (parseMethodDescriptor yL_put.desc).map (fun d => d.parameters.length) = some 4 := by decide +kernel
theorem hdL_putAt_5 : yL_putAt.cls = RL ∧ yL_putAt.cls ≠ "java/lang/invoke/MethodHandle" ∧ yL_putAt.cls ≠ "java/lang/invoke/VarHandle" ∧ (parseMethodDescriptor yL_putAt.desc).map (fun d => d.parameters.length) = some 5 := by decide +kernel
theorem hdL_rank_4 : yL_rank.cls = RL ∧ yL_rank.cls ≠ "java/lang/invoke/MethodHandle" ∧ yL_rank.cls ≠ "java/lang/invoke/VarHandle" ∧ (parseMethodDescriptor yL_rank.desc).map (fun d => d.parameters.length) = some 4 := by decide +kernel
theorem hdL_ranks_5 : yL_ranks.cls = RL ∧ yL_ranks.cls ≠ "java/lang/invoke/MethodHandle" ∧ yL_ranks.cls ≠ "java/lang/invoke/VarHandle" ∧ (parseMethodDescriptor yL_ranks.desc).map (fun d => d.parameters.length) = some 5 := by decide +kernel
theorem hdL_refines_4 : yL_refines.cls = RL ∧ yL_refines.cls ≠ "java/lang/invoke/MethodHandle" ∧ yL_refines.cls ≠ "java/lang/invoke/VarHandle" ∧ (parseMethodDescriptor yL_refines.desc).map (fun d => d.parameters.length) = some 4 := by decide +kernel
theorem hdL_search_5 : yL_search.cls = RL ∧ yL_search.cls ≠ "java/lang/invoke/MethodHandle" ∧ yL_search.cls ≠ "java/lang/invoke/VarHandle" ∧ (parseMethodDescriptor yL_search.desc).map (fun d => d.parameters.length) = some 5 := by decide +kernel
theorem hdL_size_3 : yL_size.cls = RL ∧ yL_size.cls ≠ "java/lang/invoke/MethodHandle" ∧ yL_size.cls ≠ "java/lang/invoke/VarHandle" ∧ (parseMethodDescriptor yL_size.desc).map (fun d => d.parameters.length) = some 3 := by decide +kernel
theorem hdL_sort_5 : yL_sort.cls = RL ∧ yL_sort.cls ≠ "java/lang/invoke/MethodHandle" ∧ yL_sort.cls ≠ "java/lang/invoke/VarHandle" ∧ (parseMethodDescriptor yL_sort.desc).map (fun d => d.parameters.length) = some 5 := by decide +kernel
theorem hdL_sortPart_6 : yL_sortPart.cls = RL ∧ yL_sortPart.cls ≠ "java/lang/invoke/MethodHandle" ∧ yL_sortPart.cls ≠ "java/lang/invoke/VarHandle" ∧ (parseMethodDescriptor yL_sortPart.desc).map (fun d => d.parameters.length) = some 6 := by decide +kernel
theorem hdL_step_5 : yL_step.cls = RL ∧ yL_step.cls ≠ "java/lang/invoke/MethodHandle" ∧ yL_step.cls ≠ "java/lang/invoke/VarHandle" ∧ (parseMethodDescriptor yL_step.desc).map (fun d => d.parameters.length) = some 5 := by decide +kernel
theorem hdL_swap_5 : yL_swap.cls = RL ∧ yL_swap.cls ≠ "java/lang/invoke/MethodHandle" ∧ yL_swap.cls ≠ "java/lang/invoke/VarHandle" ∧ (parseMethodDescriptor yL_swap.desc).map (fun d => d.parameters.length) = some 5 := by decide +kernel
theorem hdL_tellApart_5 : yL_tellApart.cls = RL ∧ yL_tellApart.cls ≠ "java/lang/invoke/MethodHandle" ∧ yL_tellApart.cls ≠ "java/lang/invoke/VarHandle" ∧ (parseMethodDescriptor yL_tellApart.desc).map (fun d => d.parameters.length) = some 5 := by decide +kernel
theorem hdL_text_3 : yL_text.cls = RL ∧ yL_text.cls ≠ "java/lang/invoke/MethodHandle" ∧ yL_text.cls ≠ "java/lang/invoke/VarHandle" ∧ (parseMethodDescriptor yL_text.desc).map (fun d => d.parameters.length) = some 3 := by decide +kernel
theorem hdL_turn_3 : yL_turn.cls = RL ∧ yL_turn.cls ≠ "java/lang/invoke/MethodHandle" ∧ yL_turn.cls ≠ "java/lang/invoke/VarHandle" ∧ (parseMethodDescriptor yL_turn.desc).map (fun d => d.parameters.length) = some 3 := by decide +kernel
theorem hdL_turnRow_3 : yL_turnRow.cls = RL ∧ yL_turnRow.cls ≠ "java/lang/invoke/MethodHandle" ∧ yL_turnRow.cls ≠ "java/lang/invoke/VarHandle" ∧ (parseMethodDescriptor yL_turnRow.desc).map (fun d => d.parameters.length) = some 3 := by decide +kernel
theorem hdL_unstep_3 : yL_unstep.cls = RL ∧ yL_unstep.cls ≠ "java/lang/invoke/MethodHandle" ∧ yL_unstep.cls ≠ "java/lang/invoke/VarHandle" ∧ (parseMethodDescriptor yL_unstep.desc).map (fun d => d.parameters.length) = some 3 := by decide +kernel
theorem hdL_valueAt_4 : yL_valueAt.cls = RL ∧ yL_valueAt.cls ≠ "java/lang/invoke/MethodHandle" ∧ yL_valueAt.cls ≠ "java/lang/invoke/VarHandle" ∧ (parseMethodDescriptor yL_valueAt.desc).map (fun d => d.parameters.length) = some 4 := by decide +kernel
theorem hdL_wheel_4 : yL_wheel.cls = RL ∧ yL_wheel.cls ≠ "java/lang/invoke/MethodHandle" ∧ yL_wheel.cls ≠ "java/lang/invoke/VarHandle" ∧ (parseMethodDescriptor yL_wheel.desc).map (fun d => d.parameters.length) = some 4 := by decide +kernel
theorem hdL_wipe_3 : yL_wipe.cls = RL ∧ yL_wipe.cls ≠ "java/lang/invoke/MethodHandle" ∧ yL_wipe.cls ≠ "java/lang/invoke/VarHandle" ∧ (parseMethodDescriptor yL_wipe.desc).map (fun d => d.parameters.length) = some 3 := by decide +kernel
theorem hdX0_areAlikeAlike_2 : yX0_areAlikeAlike.cls = RX0 ∧ yX0_areAlikeAlike.cls ≠ "java/lang/invoke/MethodHandle" ∧ yX0_areAlikeAlike.cls ≠ "java/lang/invoke/VarHandle" ∧ (parseMethodDescriptor yX0_areAlikeAlike.desc).map (fun d => d.parameters.length) = some 2 := by decide +kernel
theorem hdX0_areRanksAsClasses_1 : yX0_areRanksAsClasses.cls = RX0 ∧ yX0_areRanksAsClasses.cls ≠ "java/lang/invoke/MethodHandle" ∧ yX0_areRanksAsClasses.cls ≠ "java/lang/invoke/VarHandle" ∧ (parseMethodDescriptor yX0_areRanksAsClasses.desc).map (fun d => d.parameters.length) = some 1 := by decide +kernel
theorem hdX0_areSignsTurned_1 : yX0_areSignsTurned.cls = RX0 ∧ yX0_areSignsTurned.cls ≠ "java/lang/invoke/MethodHandle" ∧ yX0_areSignsTurned.cls ≠ "java/lang/invoke/VarHandle" ∧ (parseMethodDescriptor yX0_areSignsTurned.desc).map (fun d => d.parameters.length) = some 1 := by decide +kernel
theorem hdX0_areWaysAgreed_2 : yX0_areWaysAgreed.cls = RX0 ∧ yX0_areWaysAgreed.cls ≠ "java/lang/invoke/MethodHandle" ∧ yX0_areWaysAgreed.cls ≠ "java/lang/invoke/VarHandle" ∧ (parseMethodDescriptor yX0_areWaysAgreed.desc).map (fun d => d.parameters.length) = some 2 := by decide +kernel
theorem hdX0_isFinerBySorting_2 : yX0_isFinerBySorting.cls = RX0 ∧ yX0_isFinerBySorting.cls ≠ "java/lang/invoke/MethodHandle" ∧ yX0_isFinerBySorting.cls ≠ "java/lang/invoke/VarHandle" ∧ (parseMethodDescriptor yX0_isFinerBySorting.desc).map (fun d => d.parameters.length) = some 2 := by decide +kernel
theorem hdX0_isProductAlike_3 : yX0_isProductAlike.cls = RX0 ∧ yX0_isProductAlike.cls ≠ "java/lang/invoke/MethodHandle" ∧ yX0_isProductAlike.cls ≠ "java/lang/invoke/VarHandle" ∧ (parseMethodDescriptor yX0_isProductAlike.desc).map (fun d => d.parameters.length) = some 3 := by decide +kernel
theorem hdX0_isQueuedAlike_2 : yX0_isQueuedAlike.cls = RX0 ∧ yX0_isQueuedAlike.cls ≠ "java/lang/invoke/MethodHandle" ∧ yX0_isQueuedAlike.cls ≠ "java/lang/invoke/VarHandle" ∧ (parseMethodDescriptor yX0_isQueuedAlike.desc).map (fun d => d.parameters.length) = some 2 := by decide +kernel
theorem hdX0_isRankOfSome_2 : yX0_isRankOfSome.cls = RX0 ∧ yX0_isRankOfSome.cls ≠ "java/lang/invoke/MethodHandle" ∧ yX0_isRankOfSome.cls ≠ "java/lang/invoke/VarHandle" ∧ (parseMethodDescriptor yX0_isRankOfSome.desc).map (fun d => d.parameters.length) = some 2 := by decide +kernel
theorem hdX0_isRefiningSound_2 : yX0_isRefiningSound.cls = RX0 ∧ yX0_isRefiningSound.cls ≠ "java/lang/invoke/MethodHandle" ∧ yX0_isRefiningSound.cls ≠ "java/lang/invoke/VarHandle" ∧ (parseMethodDescriptor yX0_isRefiningSound.desc).map (fun d => d.parameters.length) = some 2 := by decide +kernel
theorem hdX0_isTurnedAlike_2 : yX0_isTurnedAlike.cls = RX0 ∧ yX0_isTurnedAlike.cls ≠ "java/lang/invoke/MethodHandle" ∧ yX0_isTurnedAlike.cls ≠ "java/lang/invoke/VarHandle" ∧ (parseMethodDescriptor yX0_isTurnedAlike.desc).map (fun d => d.parameters.length) = some 2 := by decide +kernel
theorem hdX0_staysSorted_2 : yX0_staysSorted.cls = RX0 ∧ yX0_staysSorted.cls ≠ "java/lang/invoke/MethodHandle" ∧ yX0_staysSorted.cls ≠ "java/lang/invoke/VarHandle" ∧ (parseMethodDescriptor yX0_staysSorted.desc).map (fun d => d.parameters.length) = some 2 := by decide +kernel
theorem hdX1_addStep_2 : yX1_addStep.cls = RX1 ∧ yX1_addStep.cls ≠ "java/lang/invoke/MethodHandle" ∧ yX1_addStep.cls ≠ "java/lang/invoke/VarHandle" ∧ (parseMethodDescriptor yX1_addStep.desc).map (fun d => d.parameters.length) = some 2 := by decide +kernel
theorem hdX1_addSteps_2 : yX1_addSteps.cls = RX1 ∧ yX1_addSteps.cls ≠ "java/lang/invoke/MethodHandle" ∧ yX1_addSteps.cls ≠ "java/lang/invoke/VarHandle" ∧ (parseMethodDescriptor yX1_addSteps.desc).map (fun d => d.parameters.length) = some 2 := by decide +kernel
theorem hdX1_append_2 : yX1_append.cls = RX1 ∧ yX1_append.cls ≠ "java/lang/invoke/MethodHandle" ∧ yX1_append.cls ≠ "java/lang/invoke/VarHandle" ∧ (parseMethodDescriptor yX1_append.desc).map (fun d => d.parameters.length) = some 2 := by decide +kernel
theorem hdX1_becomeCopyOf_1 : yX1_becomeCopyOf.cls = RX1 ∧ yX1_becomeCopyOf.cls ≠ "java/lang/invoke/MethodHandle" ∧ yX1_becomeCopyOf.cls ≠ "java/lang/invoke/VarHandle" ∧ (parseMethodDescriptor yX1_becomeCopyOf.desc).map (fun d => d.parameters.length) = some 1 := by decide +kernel
theorem hdX1_becomeProductOf_2 : yX1_becomeProductOf.cls = RX1 ∧ yX1_becomeProductOf.cls ≠ "java/lang/invoke/MethodHandle" ∧ yX1_becomeProductOf.cls ≠ "java/lang/invoke/VarHandle" ∧ (parseMethodDescriptor yX1_becomeProductOf.desc).map (fun d => d.parameters.length) = some 2 := by decide +kernel
theorem hdX1_classCount_0 : yX1_classCount.cls = RX1 ∧ yX1_classCount.cls ≠ "java/lang/invoke/MethodHandle" ∧ yX1_classCount.cls ≠ "java/lang/invoke/VarHandle" ∧ (parseMethodDescriptor yX1_classCount.desc).map (fun d => d.parameters.length) = some 0 := by decide +kernel
theorem hdX1_compared_2 : yX1_compared.cls = RX1 ∧ yX1_compared.cls ≠ "java/lang/invoke/MethodHandle" ∧ yX1_compared.cls ≠ "java/lang/invoke/VarHandle" ∧ (parseMethodDescriptor yX1_compared.desc).map (fun d => d.parameters.length) = some 2 := by decide +kernel
theorem hdX1_comparesLike_1 : yX1_comparesLike.cls = RX1 ∧ yX1_comparesLike.cls ≠ "java/lang/invoke/MethodHandle" ∧ yX1_comparesLike.cls ≠ "java/lang/invoke/VarHandle" ∧ (parseMethodDescriptor yX1_comparesLike.desc).map (fun d => d.parameters.length) = some 1 := by decide +kernel
theorem hdX1_downSteps_0 : yX1_downSteps.cls = RX1 ∧ yX1_downSteps.cls ≠ "java/lang/invoke/MethodHandle" ∧ yX1_downSteps.cls ≠ "java/lang/invoke/VarHandle" ∧ (parseMethodDescriptor yX1_downSteps.desc).map (fun d => d.parameters.length) = some 0 := by decide +kernel
theorem hdX1_empty_0 : yX1_empty.cls = RX1 ∧ yX1_empty.cls ≠ "java/lang/invoke/MethodHandle" ∧ yX1_empty.cls ≠ "java/lang/invoke/VarHandle" ∧ (parseMethodDescriptor yX1_empty.desc).map (fun d => d.parameters.length) = some 0 := by decide +kernel
theorem hdX1_isDownOn_1 : yX1_isDownOn.cls = RX1 ∧ yX1_isDownOn.cls ≠ "java/lang/invoke/MethodHandle" ∧ yX1_isDownOn.cls ≠ "java/lang/invoke/VarHandle" ∧ (parseMethodDescriptor yX1_isDownOn.desc).map (fun d => d.parameters.length) = some 1 := by decide +kernel
theorem hdX1_isFinerThan_1 : yX1_isFinerThan.cls = RX1 ∧ yX1_isFinerThan.cls ≠ "java/lang/invoke/MethodHandle" ∧ yX1_isFinerThan.cls ≠ "java/lang/invoke/VarHandle" ∧ (parseMethodDescriptor yX1_isFinerThan.desc).map (fun d => d.parameters.length) = some 1 := by decide +kernel
theorem hdX1_isFirstOfClass_1 : yX1_isFirstOfClass.cls = RX1 ∧ yX1_isFirstOfClass.cls ≠ "java/lang/invoke/MethodHandle" ∧ yX1_isFirstOfClass.cls ≠ "java/lang/invoke/VarHandle" ∧ (parseMethodDescriptor yX1_isFirstOfClass.desc).map (fun d => d.parameters.length) = some 1 := by decide +kernel
theorem hdX1_keyOn_1 : yX1_keyOn.cls = RX1 ∧ yX1_keyOn.cls ≠ "java/lang/invoke/MethodHandle" ∧ yX1_keyOn.cls ≠ "java/lang/invoke/VarHandle" ∧ (parseMethodDescriptor yX1_keyOn.desc).map (fun d => d.parameters.length) = some 1 := by decide +kernel
theorem hdX1_length_0 : yX1_length.cls = RX1 ∧ yX1_length.cls ≠ "java/lang/invoke/MethodHandle" ∧ yX1_length.cls ≠ "java/lang/invoke/VarHandle" ∧ (parseMethodDescriptor yX1_length.desc).map (fun d => d.parameters.length) = some 0 := by decide +kernel
theorem hdX1_numberBy_2 : yX1_numberBy.cls = RX1 ∧ yX1_numberBy.cls ≠ "java/lang/invoke/MethodHandle" ∧ yX1_numberBy.cls ≠ "java/lang/invoke/VarHandle" ∧ (parseMethodDescriptor yX1_numberBy.desc).map (fun d => d.parameters.length) = some 2 := by decide +kernel
theorem hdX1_pushBackBehind_1 : yX1_pushBackBehind.cls = RX1 ∧ yX1_pushBackBehind.cls ≠ "java/lang/invoke/MethodHandle" ∧ yX1_pushBackBehind.cls ≠ "java/lang/invoke/VarHandle" ∧ (parseMethodDescriptor yX1_pushBackBehind.desc).map (fun d => d.parameters.length) = some 1 := by decide +kernel
theorem hdX1_rankAll_0 : yX1_rankAll.cls = RX1 ∧ yX1_rankAll.cls ≠ "java/lang/invoke/MethodHandle" ∧ yX1_rankAll.cls ≠ "java/lang/invoke/VarHandle" ∧ (parseMethodDescriptor yX1_rankAll.desc).map (fun d => d.parameters.length) = some 0 := by decide +kernel
theorem hdX1_rankOf_1 : yX1_rankOf.cls = RX1 ∧ yX1_rankOf.cls ≠ "java/lang/invoke/MethodHandle" ∧ yX1_rankOf.cls ≠ "java/lang/invoke/VarHandle" ∧ (parseMethodDescriptor yX1_rankOf.desc).map (fun d => d.parameters.length) = some 1 := by decide +kernel
theorem hdX1_removeLast_0 : yX1_removeLast.cls = RX1 ∧ yX1_removeLast.cls ≠ "java/lang/invoke/MethodHandle" ∧ yX1_removeLast.cls ≠ "java/lang/invoke/VarHandle" ∧ (parseMethodDescriptor yX1_removeLast.desc).map (fun d => d.parameters.length) = some 0 := by decide +kernel
theorem hdX1_reverse_0 : yX1_reverse.cls = RX1 ∧ yX1_reverse.cls ≠ "java/lang/invoke/MethodHandle" ∧ yX1_reverse.cls ≠ "java/lang/invoke/VarHandle" ∧ (parseMethodDescriptor yX1_reverse.desc).map (fun d => d.parameters.length) = some 0 := by decide +kernel
theorem hdX1_settle_0 : yX1_settle.cls = RX1 ∧ yX1_settle.cls ≠ "java/lang/invoke/MethodHandle" ∧ yX1_settle.cls ≠ "java/lang/invoke/VarHandle" ∧ (parseMethodDescriptor yX1_settle.desc).map (fun d => d.parameters.length) = some 0 := by decide +kernel
theorem hdX1_told_0 : yX1_told.cls = RX1 ∧ yX1_told.cls ≠ "java/lang/invoke/MethodHandle" ∧ yX1_told.cls ≠ "java/lang/invoke/VarHandle" ∧ (parseMethodDescriptor yX1_told.desc).map (fun d => d.parameters.length) = some 0 := by decide +kernel
theorem hdX2_append_2 : yX2_append.cls = RX2 ∧ yX2_append.cls ≠ "java/lang/invoke/MethodHandle" ∧ yX2_append.cls ≠ "java/lang/invoke/VarHandle" ∧ (parseMethodDescriptor yX2_append.desc).map (fun d => d.parameters.length) = some 2 := by decide +kernel
theorem hdX2_appendLot_3 : yX2_appendLot.cls = RX2 ∧ yX2_appendLot.cls ≠ "java/lang/invoke/MethodHandle" ∧ yX2_appendLot.cls ≠ "java/lang/invoke/VarHandle" ∧ (parseMethodDescriptor yX2_appendLot.desc).map (fun d => d.parameters.length) = some 3 := by decide +kernel
theorem hdX2_becomeAllValues_0 : yX2_becomeAllValues.cls = RX2 ∧ yX2_becomeAllValues.cls ≠ "java/lang/invoke/MethodHandle" ∧ yX2_becomeAllValues.cls ≠ "java/lang/invoke/VarHandle" ∧ (parseMethodDescriptor yX2_becomeAllValues.desc).map (fun d => d.parameters.length) = some 0 := by decide +kernel
theorem hdX2_becomeCopyOf_1 : yX2_becomeCopyOf.cls = RX2 ∧ yX2_becomeCopyOf.cls ≠ "java/lang/invoke/MethodHandle" ∧ yX2_becomeCopyOf.cls ≠ "java/lang/invoke/VarHandle" ∧ (parseMethodDescriptor yX2_becomeCopyOf.desc).map (fun d => d.parameters.length) = some 1 := by decide +kernel
theorem hdX2_empty_0 : yX2_empty.cls = RX2 ∧ yX2_empty.cls ≠ "java/lang/invoke/MethodHandle" ∧ yX2_empty.cls ≠ "java/lang/invoke/VarHandle" ∧ (parseMethodDescriptor yX2_empty.desc).map (fun d => d.parameters.length) = some 0 := by decide +kernel
theorem hdX2_exchange_2 : yX2_exchange.cls = RX2 ∧ yX2_exchange.cls ≠ "java/lang/invoke/MethodHandle" ∧ yX2_exchange.cls ≠ "java/lang/invoke/VarHandle" ∧ (parseMethodDescriptor yX2_exchange.desc).map (fun d => d.parameters.length) = some 2 := by decide +kernel
theorem hdX2_firstPlaceBy_1 : yX2_firstPlaceBy.cls = RX2 ∧ yX2_firstPlaceBy.cls ≠ "java/lang/invoke/MethodHandle" ∧ yX2_firstPlaceBy.cls ≠ "java/lang/invoke/VarHandle" ∧ (parseMethodDescriptor yX2_firstPlaceBy.desc).map (fun d => d.parameters.length) = some 1 := by decide +kernel
theorem hdX2_hasAlike_2 : yX2_hasAlike.cls = RX2 ∧ yX2_hasAlike.cls ≠ "java/lang/invoke/MethodHandle" ∧ yX2_hasAlike.cls ≠ "java/lang/invoke/VarHandle" ∧ (parseMethodDescriptor yX2_hasAlike.desc).map (fun d => d.parameters.length) = some 2 := by decide +kernel
theorem hdX2_insert_3 : yX2_insert.cls = RX2 ∧ yX2_insert.cls ≠ "java/lang/invoke/MethodHandle" ∧ yX2_insert.cls ≠ "java/lang/invoke/VarHandle" ∧ (parseMethodDescriptor yX2_insert.desc).map (fun d => d.parameters.length) = some 3 := by decide +kernel
theorem hdX2_isFirstOfLot_2 : yX2_isFirstOfLot.cls = RX2 ∧ yX2_isFirstOfLot.cls ≠ "java/lang/invoke/MethodHandle" ∧ yX2_isFirstOfLot.cls ≠ "java/lang/invoke/VarHandle" ∧ (parseMethodDescriptor yX2_isFirstOfLot.desc).map (fun d => d.parameters.length) = some 2 := by decide +kernel
theorem hdX2_isInSequenceBy_1 : yX2_isInSequenceBy.cls = RX2 ∧ yX2_isInSequenceBy.cls ≠ "java/lang/invoke/MethodHandle" ∧ yX2_isInSequenceBy.cls ≠ "java/lang/invoke/VarHandle" ∧ (parseMethodDescriptor yX2_isInSequenceBy.desc).map (fun d => d.parameters.length) = some 1 := by decide +kernel
theorem hdX2_isLike_1 : yX2_isLike.cls = RX2 ∧ yX2_isLike.cls ≠ "java/lang/invoke/MethodHandle" ∧ yX2_isLike.cls ≠ "java/lang/invoke/VarHandle" ∧ (parseMethodDescriptor yX2_isLike.desc).map (fun d => d.parameters.length) = some 1 := by decide +kernel
theorem hdX2_isNearer_4 : yX2_isNearer.cls = RX2 ∧ yX2_isNearer.cls ≠ "java/lang/invoke/MethodHandle" ∧ yX2_isNearer.cls ≠ "java/lang/invoke/VarHandle" ∧ (parseMethodDescriptor yX2_isNearer.desc).map (fun d => d.parameters.length) = some 4 := by decide +kernel
theorem hdX2_isOnSide_2 : yX2_isOnSide.cls = RX2 ∧ yX2_isOnSide.cls ≠ "java/lang/invoke/MethodHandle" ∧ yX2_isOnSide.cls ≠ "java/lang/invoke/VarHandle" ∧ (parseMethodDescriptor yX2_isOnSide.desc).map (fun d => d.parameters.length) = some 2 := by decide +kernel
theorem hdX2_lastPlaceBy_1 : yX2_lastPlaceBy.cls = RX2 ∧ yX2_lastPlaceBy.cls ≠ "java/lang/invoke/MethodHandle" ∧ yX2_lastPlaceBy.cls ≠ "java/lang/invoke/VarHandle" ∧ (parseMethodDescriptor yX2_lastPlaceBy.desc).map (fun d => d.parameters.length) = some 1 := by decide +kernel
theorem hdX2_length_0 : yX2_length.cls = RX2 ∧ yX2_length.cls ≠ "java/lang/invoke/MethodHandle" ∧ yX2_length.cls ≠ "java/lang/invoke/VarHandle" ∧ (parseMethodDescriptor yX2_length.desc).map (fun d => d.parameters.length) = some 0 := by decide +kernel
theorem hdX2_lots_1 : yX2_lots.cls = RX2 ∧ yX2_lots.cls ≠ "java/lang/invoke/MethodHandle" ∧ yX2_lots.cls ≠ "java/lang/invoke/VarHandle" ∧ (parseMethodDescriptor yX2_lots.desc).map (fun d => d.parameters.length) = some 1 := by decide +kernel
theorem hdX2_lotsAhead_2 : yX2_lotsAhead.cls = RX2 ∧ yX2_lotsAhead.cls ≠ "java/lang/invoke/MethodHandle" ∧ yX2_lotsAhead.cls ≠ "java/lang/invoke/VarHandle" ∧ (parseMethodDescriptor yX2_lotsAhead.desc).map (fun d => d.parameters.length) = some 2 := by decide +kernel
theorem hdX2_lotsTold_1 : yX2_lotsTold.cls = RX2 ∧ yX2_lotsTold.cls ≠ "java/lang/invoke/MethodHandle" ∧ yX2_lotsTold.cls ≠ "java/lang/invoke/VarHandle" ∧ (parseMethodDescriptor yX2_lotsTold.desc).map (fun d => d.parameters.length) = some 1 := by decide +kernel
theorem hdX2_markOn_1 : yX2_markOn.cls = RX2 ∧ yX2_markOn.cls ≠ "java/lang/invoke/MethodHandle" ∧ yX2_markOn.cls ≠ "java/lang/invoke/VarHandle" ∧ (parseMethodDescriptor yX2_markOn.desc).map (fun d => d.parameters.length) = some 1 := by decide +kernel
theorem hdX2_nearestPlace_3 : yX2_nearestPlace.cls = RX2 ∧ yX2_nearestPlace.cls ≠ "java/lang/invoke/MethodHandle" ∧ yX2_nearestPlace.cls ≠ "java/lang/invoke/VarHandle" ∧ (parseMethodDescriptor yX2_nearestPlace.desc).map (fun d => d.parameters.length) = some 3 := by decide +kernel
theorem hdX2_placesUnlike_1 : yX2_placesUnlike.cls = RX2 ∧ yX2_placesUnlike.cls ≠ "java/lang/invoke/MethodHandle" ∧ yX2_placesUnlike.cls ≠ "java/lang/invoke/VarHandle" ∧ (parseMethodDescriptor yX2_placesUnlike.desc).map (fun d => d.parameters.length) = some 1 := by decide +kernel
theorem hdX2_remove_1 : yX2_remove.cls = RX2 ∧ yX2_remove.cls ≠ "java/lang/invoke/MethodHandle" ∧ yX2_remove.cls ≠ "java/lang/invoke/VarHandle" ∧ (parseMethodDescriptor yX2_remove.desc).map (fun d => d.parameters.length) = some 1 := by decide +kernel
theorem hdX2_replace_3 : yX2_replace.cls = RX2 ∧ yX2_replace.cls ≠ "java/lang/invoke/MethodHandle" ∧ yX2_replace.cls ≠ "java/lang/invoke/VarHandle" ∧ (parseMethodDescriptor yX2_replace.desc).map (fun d => d.parameters.length) = some 3 := by decide +kernel
theorem hdX2_reverse_0 : yX2_reverse.cls = RX2 ∧ yX2_reverse.cls ≠ "java/lang/invoke/MethodHandle" ∧ yX2_reverse.cls ≠ "java/lang/invoke/VarHandle" ∧ (parseMethodDescriptor yX2_reverse.desc).map (fun d => d.parameters.length) = some 0 := by decide +kernel
theorem hdX2_thingsAhead_2 : yX2_thingsAhead.cls = RX2 ∧ yX2_thingsAhead.cls ≠ "java/lang/invoke/MethodHandle" ∧ yX2_thingsAhead.cls ≠ "java/lang/invoke/VarHandle" ∧ (parseMethodDescriptor yX2_thingsAhead.desc).map (fun d => d.parameters.length) = some 2 := by decide +kernel
theorem hdX2_told_0 : yX2_told.cls = RX2 ∧ yX2_told.cls ≠ "java/lang/invoke/MethodHandle" ∧ yX2_told.cls ≠ "java/lang/invoke/VarHandle" ∧ (parseMethodDescriptor yX2_told.desc).map (fun d => d.parameters.length) = some 0 := by decide +kernel
theorem hdX2_valueOn_1 : yX2_valueOn.cls = RX2 ∧ yX2_valueOn.cls ≠ "java/lang/invoke/MethodHandle" ∧ yX2_valueOn.cls ≠ "java/lang/invoke/VarHandle" ∧ (parseMethodDescriptor yX2_valueOn.desc).map (fun d => d.parameters.length) = some 1 := by decide +kernel
theorem hdX3_arrangeAll_3 : yX3_arrangeAll.cls = RX3 ∧ yX3_arrangeAll.cls ≠ "java/lang/invoke/MethodHandle" ∧ yX3_arrangeAll.cls ≠ "java/lang/invoke/VarHandle" ∧ (parseMethodDescriptor yX3_arrangeAll.desc).map (fun d => d.parameters.length) = some 3 := by decide +kernel
theorem hdX3_gatherByRank_2 : yX3_gatherByRank.cls = RX3 ∧ yX3_gatherByRank.cls ≠ "java/lang/invoke/MethodHandle" ∧ yX3_gatherByRank.cls ≠ "java/lang/invoke/VarHandle" ∧ (parseMethodDescriptor yX3_gatherByRank.desc).map (fun d => d.parameters.length) = some 2 := by decide +kernel
theorem hdX3_insertEach_4 : yX3_insertEach.cls = RX3 ∧ yX3_insertEach.cls ≠ "java/lang/invoke/MethodHandle" ∧ yX3_insertEach.cls ≠ "java/lang/invoke/VarHandle" ∧ (parseMethodDescriptor yX3_insertEach.desc).map (fun d => d.parameters.length) = some 4 := by decide +kernel
theorem hdX3_mergeRuns_2 : yX3_mergeRuns.cls = RX3 ∧ yX3_mergeRuns.cls ≠ "java/lang/invoke/MethodHandle" ∧ yX3_mergeRuns.cls ≠ "java/lang/invoke/VarHandle" ∧ (parseMethodDescriptor yX3_mergeRuns.desc).map (fun d => d.parameters.length) = some 2 := by decide +kernel
theorem hdX3_mergeTwo_5 : yX3_mergeTwo.cls = RX3 ∧ yX3_mergeTwo.cls ≠ "java/lang/invoke/MethodHandle" ∧ yX3_mergeTwo.cls ≠ "java/lang/invoke/VarHandle" ∧ (parseMethodDescriptor yX3_mergeTwo.desc).map (fun d => d.parameters.length) = some 5 := by decide +kernel
theorem hdX4_ahead_3 : yX4_ahead.cls = RX4 ∧ yX4_ahead.cls ≠ "java/lang/invoke/MethodHandle" ∧ yX4_ahead.cls ≠ "java/lang/invoke/VarHandle" ∧ (parseMethodDescriptor yX4_ahead.desc).map (fun d => d.parameters.length) = some 3 := by decide +kernel
theorem hdX4_apart_2 : yX4_apart.cls = RX4 ∧ yX4_apart.cls ≠ "java/lang/invoke/MethodHandle" ∧ yX4_apart.cls ≠ "java/lang/invoke/VarHandle" ∧ (parseMethodDescriptor yX4_apart.desc).map (fun d => d.parameters.length) = some 2 := by decide +kernel
theorem hdX4_areSame_2 : yX4_areSame.cls = RX4 ∧ yX4_areSame.cls ≠ "java/lang/invoke/MethodHandle" ∧ yX4_areSame.cls ≠ "java/lang/invoke/VarHandle" ∧ (parseMethodDescriptor yX4_areSame.desc).map (fun d => d.parameters.length) = some 2 := by decide +kernel
theorem hdX4_both_4 : yX4_both.cls = RX4 ∧ yX4_both.cls ≠ "java/lang/invoke/MethodHandle" ∧ yX4_both.cls ≠ "java/lang/invoke/VarHandle" ∧ (parseMethodDescriptor yX4_both.desc).map (fun d => d.parameters.length) = some 4 := by decide +kernel
theorem hdX4_classes_1 : yX4_classes.cls = RX4 ∧ yX4_classes.cls ≠ "java/lang/invoke/MethodHandle" ∧ yX4_classes.cls ≠ "java/lang/invoke/VarHandle" ∧ (parseMethodDescriptor yX4_classes.desc).map (fun d => d.parameters.length) = some 1 := by decide +kernel
theorem hdX4_clear_1 : yX4_clear.cls = RX4 ∧ yX4_clear.cls ≠ "java/lang/invoke/MethodHandle" ∧ yX4_clear.cls ≠ "java/lang/invoke/VarHandle" ∧ (parseMethodDescriptor yX4_clear.desc).map (fun d => d.parameters.length) = some 1 := by decide +kernel
theorem hdX4_coarsestKey_3 : yX4_coarsestKey.cls = RX4 ∧ yX4_coarsestKey.cls ≠ "java/lang/invoke/MethodHandle" ∧ yX4_coarsestKey.cls ≠ "java/lang/invoke/VarHandle" ∧ (parseMethodDescriptor yX4_coarsestKey.desc).map (fun d => d.parameters.length) = some 3 := by decide +kernel
theorem hdX4_compare_3 : yX4_compare.cls = RX4 ∧ yX4_compare.cls ≠ "java/lang/invoke/MethodHandle" ∧ yX4_compare.cls ≠ "java/lang/invoke/VarHandle" ∧ (parseMethodDescriptor yX4_compare.desc).map (fun d => d.parameters.length) = some 3 := by decide +kernel
theorem hdX4_comparedByBoth_4 : yX4_comparedByBoth.cls = RX4 ∧ yX4_comparedByBoth.cls ≠ "java/lang/invoke/MethodHandle" ∧ yX4_comparedByBoth.cls ≠ "java/lang/invoke/VarHandle" ∧ (parseMethodDescriptor yX4_comparedByBoth.desc).map (fun d => d.parameters.length) = some 4 := by decide +kernel
theorem hdX4_copyOrder_2 : yX4_copyOrder.cls = RX4 ∧ yX4_copyOrder.cls ≠ "java/lang/invoke/MethodHandle" ∧ yX4_copyOrder.cls ≠ "java/lang/invoke/VarHandle" ∧ (parseMethodDescriptor yX4_copyOrder.desc).map (fun d => d.parameters.length) = some 2 := by decide +kernel
theorem hdX4_copyRow_2 : yX4_copyRow.cls = RX4 ∧ yX4_copyRow.cls ≠ "java/lang/invoke/MethodHandle" ∧ yX4_copyRow.cls ≠ "java/lang/invoke/VarHandle" ∧ (parseMethodDescriptor yX4_copyRow.desc).map (fun d => d.parameters.length) = some 2 := by decide +kernel
theorem hdX4_count_1 : yX4_count.cls = RX4 ∧ yX4_count.cls ≠ "java/lang/invoke/MethodHandle" ∧ yX4_count.cls ≠ "java/lang/invoke/VarHandle" ∧ (parseMethodDescriptor yX4_count.desc).map (fun d => d.parameters.length) = some 1 := by decide +kernel
theorem hdX4_demandGap_2 : yX4_demandGap.cls = RX4 ∧ yX4_demandGap.cls ≠ "java/lang/invoke/MethodHandle" ∧ yX4_demandGap.cls ≠ "java/lang/invoke/VarHandle" ∧ (parseMethodDescriptor yX4_demandGap.desc).map (fun d => d.parameters.length) = some 2 := by decide +kernel
theorem hdX4_demandPlace_2 : yX4_demandPlace.cls = RX4 ∧ yX4_demandPlace.cls ≠ "java/lang/invoke/MethodHandle" ∧ yX4_demandPlace.cls ≠ "java/lang/invoke/VarHandle" ∧ (parseMethodDescriptor yX4_demandPlace.desc).map (fun d => d.parameters.length) = some 2 := by decide +kernel
theorem hdX4_demandValue_1 : yX4_demandValue.cls = RX4 ∧ yX4_demandValue.cls ≠ "java/lang/invoke/MethodHandle" ∧ yX4_demandValue.cls ≠ "java/lang/invoke/VarHandle" ∧ (parseMethodDescriptor yX4_demandValue.desc).map (fun d => d.parameters.length) = some 1 := by decide +kernel
theorem hdX4_demandWithin_2 : yX4_demandWithin.cls = RX4 ∧ yX4_demandWithin.cls ≠ "java/lang/invoke/MethodHandle" ∧ yX4_demandWithin.cls ≠ "java/lang/invoke/VarHandle" ∧ (parseMethodDescriptor yX4_demandWithin.desc).map (fun d => d.parameters.length) = some 2 := by decide +kernel
theorem hdX4_digest_0 : yX4_digest.cls = RX4 ∧ yX4_digest.cls ≠ "java/lang/invoke/MethodHandle" ∧ yX4_digest.cls ≠ "java/lang/invoke/VarHandle" ∧ (parseMethodDescriptor yX4_digest.desc).map (fun d => d.parameters.length) = some 0 := by decide +kernel
theorem hdX4_drop_2 : yX4_drop.cls = RX4 ∧ yX4_drop.cls ≠ "java/lang/invoke/MethodHandle" ∧ yX4_drop.cls ≠ "java/lang/invoke/VarHandle" ∧ (parseMethodDescriptor yX4_drop.desc).map (fun d => d.parameters.length) = some 2 := by decide +kernel
theorem hdX4_extreme_3 : yX4_extreme.cls = RX4 ∧ yX4_extreme.cls ≠ "java/lang/invoke/MethodHandle" ∧ yX4_extreme.cls ≠ "java/lang/invoke/VarHandle" ∧ (parseMethodDescriptor yX4_extreme.desc).map (fun d => d.parameters.length) = some 3 := by decide +kernel
theorem hdX4_fill_4 : yX4_fill.cls = RX4 ∧ yX4_fill.cls ≠ "java/lang/invoke/MethodHandle" ∧ yX4_fill.cls ≠ "java/lang/invoke/VarHandle" ∧ (parseMethodDescriptor yX4_fill.desc).map (fun d => d.parameters.length) = some 4 := by decide +kernel
theorem hdX4_groups_2 : yX4_groups.cls = RX4 ∧ yX4_groups.cls ≠ "java/lang/invoke/MethodHandle" ∧ yX4_groups.cls ≠ "java/lang/invoke/VarHandle" ∧ (parseMethodDescriptor yX4_groups.desc).map (fun d => d.parameters.length) = some 2 := by decide +kernel
theorem hdX4_house_1 : yX4_house.cls = RX4 ∧ yX4_house.cls ≠ "java/lang/invoke/MethodHandle" ∧ yX4_house.cls ≠ "java/lang/invoke/VarHandle" ∧ (parseMethodDescriptor yX4_house.desc).map (fun d => d.parameters.length) = some 1 := by decide +kernel
theorem hdX4_isSorted_2 : yX4_isSorted.cls = RX4 ∧ yX4_isSorted.cls ≠ "java/lang/invoke/MethodHandle" ∧ yX4_isSorted.cls ≠ "java/lang/invoke/VarHandle" ∧ (parseMethodDescriptor yX4_isSorted.desc).map (fun d => d.parameters.length) = some 2 := by decide +kernel
theorem hdX4_isSound_0 : yX4_isSound.cls = RX4 ∧ yX4_isSound.cls ≠ "java/lang/invoke/MethodHandle" ∧ yX4_isSound.cls ≠ "java/lang/invoke/VarHandle" ∧ (parseMethodDescriptor yX4_isSound.desc).map (fun d => d.parameters.length) = some 0 := by decide +kernel
theorem hdX4_keyOf_2 : yX4_keyOf.cls = RX4 ∧ yX4_keyOf.cls ≠ "java/lang/invoke/MethodHandle" ∧ yX4_keyOf.cls ≠ "java/lang/invoke/VarHandle" ∧ (parseMethodDescriptor yX4_keyOf.desc).map (fun d => d.parameters.length) = some 2 := by decide +kernel
theorem hdX4_kinds_2 : yX4_kinds.cls = RX4 ∧ yX4_kinds.cls ≠ "java/lang/invoke/MethodHandle" ∧ yX4_kinds.cls ≠ "java/lang/invoke/VarHandle" ∧ (parseMethodDescriptor yX4_kinds.desc).map (fun d => d.parameters.length) = some 2 := by decide +kernel
theorem hdX4_knock_0 : yX4_knock.cls = RX4 ∧ yX4_knock.cls ≠ "java/lang/invoke/MethodHandle" ∧ yX4_knock.cls ≠ "java/lang/invoke/VarHandle" ∧ (parseMethodDescriptor yX4_knock.desc).map (fun d => d.parameters.length) = some 0 := by decide +kernel
theorem hdX4_markAt_2 : yX4_markAt.cls = RX4 ∧ yX4_markAt.cls ≠ "java/lang/invoke/MethodHandle" ∧ yX4_markAt.cls ≠ "java/lang/invoke/VarHandle" ∧ (parseMethodDescriptor yX4_markAt.desc).map (fun d => d.parameters.length) = some 2 := by decide +kernel
theorem hdX4_mixed_2 : yX4_mixed.cls = RX4 ∧ yX4_mixed.cls ≠ "java/lang/invoke/MethodHandle" ∧ yX4_mixed.cls ≠ "java/lang/invoke/VarHandle" ∧ (parseMethodDescriptor yX4_mixed.desc).map (fun d => d.parameters.length) = some 2 := by decide +kernel
theorem hdX4_mixedWithOrders_1 : yX4_mixedWithOrders.cls = RX4 ∧ yX4_mixedWithOrders.cls ≠ "java/lang/invoke/MethodHandle" ∧ yX4_mixedWithOrders.cls ≠ "java/lang/invoke/VarHandle" ∧ (parseMethodDescriptor yX4_mixedWithOrders.desc).map (fun d => d.parameters.length) = some 1 := by decide +kernel
theorem hdX4_mixedWithPairs_1 : yX4_mixedWithPairs.cls = RX4 ∧ yX4_mixedWithPairs.cls ≠ "java/lang/invoke/MethodHandle" ∧ yX4_mixedWithPairs.cls ≠ "java/lang/invoke/VarHandle" ∧ (parseMethodDescriptor yX4_mixedWithPairs.desc).map (fun d => d.parameters.length) = some 1 := by decide +kernel
theorem hdX4_mixedWithRows_1 : yX4_mixedWithRows.cls = RX4 ∧ yX4_mixedWithRows.cls ≠ "java/lang/invoke/MethodHandle" ∧ yX4_mixedWithRows.cls ≠ "java/lang/invoke/VarHandle" ∧ (parseMethodDescriptor yX4_mixedWithRows.desc).map (fun d => d.parameters.length) = some 1 := by decide +kernel
theorem hdX4_mixedWithSequences_1 : yX4_mixedWithSequences.cls = RX4 ∧ yX4_mixedWithSequences.cls ≠ "java/lang/invoke/MethodHandle" ∧ yX4_mixedWithSequences.cls ≠ "java/lang/invoke/VarHandle" ∧ (parseMethodDescriptor yX4_mixedWithSequences.desc).map (fun d => d.parameters.length) = some 1 := by decide +kernel
theorem hdX4_near_4 : yX4_near.cls = RX4 ∧ yX4_near.cls ≠ "java/lang/invoke/MethodHandle" ∧ yX4_near.cls ≠ "java/lang/invoke/VarHandle" ∧ (parseMethodDescriptor yX4_near.desc).map (fun d => d.parameters.length) = some 4 := by decide +kernel
theorem hdX4_nextMark_0 : yX4_nextMark.cls = RX4 ∧ yX4_nextMark.cls ≠ "java/lang/invoke/MethodHandle" ∧ yX4_nextMark.cls ≠ "java/lang/invoke/VarHandle" ∧ (parseMethodDescriptor yX4_nextMark.desc).map (fun d => d.parameters.length) = some 0 := by decide +kernel
theorem hdX4_orderAt_1 : yX4_orderAt.cls = RX4 ∧ yX4_orderAt.cls ≠ "java/lang/invoke/MethodHandle" ∧ yX4_orderAt.cls ≠ "java/lang/invoke/VarHandle" ∧ (parseMethodDescriptor yX4_orderAt.desc).map (fun d => d.parameters.length) = some 1 := by decide +kernel
theorem hdX4_orderText_1 : yX4_orderText.cls = RX4 ∧ yX4_orderText.cls ≠ "java/lang/invoke/MethodHandle" ∧ yX4_orderText.cls ≠ "java/lang/invoke/VarHandle" ∧ (parseMethodDescriptor yX4_orderText.desc).map (fun d => d.parameters.length) = some 1 := by decide +kernel
theorem hdX4_pairsApart_2 : yX4_pairsApart.cls = RX4 ∧ yX4_pairsApart.cls ≠ "java/lang/invoke/MethodHandle" ∧ yX4_pairsApart.cls ≠ "java/lang/invoke/VarHandle" ∧ (parseMethodDescriptor yX4_pairsApart.desc).map (fun d => d.parameters.length) = some 2 := by decide +kernel
theorem hdX4_placeNew_3 : yX4_placeNew.cls = RX4 ∧ yX4_placeNew.cls ≠ "java/lang/invoke/MethodHandle" ∧ yX4_placeNew.cls ≠ "java/lang/invoke/VarHandle" ∧ (parseMethodDescriptor yX4_placeNew.desc).map (fun d => d.parameters.length) = some 3 := by decide +kernel
theorem hdX4_product_3 : yX4_product.cls = RX4 ∧ yX4_product.cls ≠ "java/lang/invoke/MethodHandle" ∧ yX4_product.cls ≠ "java/lang/invoke/VarHandle" ∧ (parseMethodDescriptor yX4_product.desc).map (fun d => d.parameters.length) = some 3 := by decide +kernel
theorem hdX4_put_2 : yX4_put.cls = RX4 ∧ yX4_put.cls ≠ "java/lang/invoke/MethodHandle" ∧ yX4_put.cls ≠ "java/lang/invoke/VarHandle" ∧ (parseMethodDescriptor yX4_put.desc).map (fun d => d.parameters.length) = some 2 := by decide +kernel
theorem hdX4_putAt_3 : yX4_putAt.cls = RX4 ∧ yX4_putAt.cls ≠ "java/lang/invoke/MethodHandle" ∧ yX4_putAt.cls ≠ "java/lang/invoke/VarHandle" ∧ (parseMethodDescriptor yX4_putAt.desc).map (fun d => d.parameters.length) = some 3 := by decide +kernel
theorem hdX4_rank_2 : yX4_rank.cls = RX4 ∧ yX4_rank.cls ≠ "java/lang/invoke/MethodHandle" ∧ yX4_rank.cls ≠ "java/lang/invoke/VarHandle" ∧ (parseMethodDescriptor yX4_rank.desc).map (fun d => d.parameters.length) = some 2 := by decide +kernel
theorem hdX4_ranks_3 : yX4_ranks.cls = RX4 ∧ yX4_ranks.cls ≠ "java/lang/invoke/MethodHandle" ∧ yX4_ranks.cls ≠ "java/lang/invoke/VarHandle" ∧ (parseMethodDescriptor yX4_ranks.desc).map (fun d => d.parameters.length) = some 3 := by decide +kernel
theorem hdX4_refines_2 : yX4_refines.cls = RX4 ∧ yX4_refines.cls ≠ "java/lang/invoke/MethodHandle" ∧ yX4_refines.cls ≠ "java/lang/invoke/VarHandle" ∧ (parseMethodDescriptor yX4_refines.desc).map (fun d => d.parameters.length) = some 2 := by decide +kernel
theorem hdX4_refuse_0 : yX4_refuse.cls = RX4 ∧ yX4_refuse.cls ≠ "java/lang/invoke/MethodHandle" ∧ yX4_refuse.cls ≠ "java/lang/invoke/VarHandle" ∧ (parseMethodDescriptor yX4_refuse.desc).map (fun d => d.parameters.length) = some 0 := by decide +kernel
theorem hdX4_rowAt_1 : yX4_rowAt.cls = RX4 ∧ yX4_rowAt.cls ≠ "java/lang/invoke/MethodHandle" ∧ yX4_rowAt.cls ≠ "java/lang/invoke/VarHandle" ∧ (parseMethodDescriptor yX4_rowAt.desc).map (fun d => d.parameters.length) = some 1 := by decide +kernel
theorem hdX4_search_3 : yX4_search.cls = RX4 ∧ yX4_search.cls ≠ "java/lang/invoke/MethodHandle" ∧ yX4_search.cls ≠ "java/lang/invoke/VarHandle" ∧ (parseMethodDescriptor yX4_search.desc).map (fun d => d.parameters.length) = some 3 := by decide +kernel
theorem hdX4_size_1 : yX4_size.cls = RX4 ∧ yX4_size.cls ≠ "java/lang/invoke/MethodHandle" ∧ yX4_size.cls ≠ "java/lang/invoke/VarHandle" ∧ (parseMethodDescriptor yX4_size.desc).map (fun d => d.parameters.length) = some 1 := by decide +kernel
theorem hdX4_sort_3 : yX4_sort.cls = RX4 ∧ yX4_sort.cls ≠ "java/lang/invoke/MethodHandle" ∧ yX4_sort.cls ≠ "java/lang/invoke/VarHandle" ∧ (parseMethodDescriptor yX4_sort.desc).map (fun d => d.parameters.length) = some 3 := by decide +kernel
theorem hdX4_sortPart_4 : yX4_sortPart.cls = RX4 ∧ yX4_sortPart.cls ≠ "java/lang/invoke/MethodHandle" ∧ yX4_sortPart.cls ≠ "java/lang/invoke/VarHandle" ∧ (parseMethodDescriptor yX4_sortPart.desc).map (fun d => d.parameters.length) = some 4 := by decide +kernel
theorem hdX4_step_3 : yX4_step.cls = RX4 ∧ yX4_step.cls ≠ "java/lang/invoke/MethodHandle" ∧ yX4_step.cls ≠ "java/lang/invoke/VarHandle" ∧ (parseMethodDescriptor yX4_step.desc).map (fun d => d.parameters.length) = some 3 := by decide +kernel
theorem hdX4_stepsInAll_0 : yX4_stepsInAll.cls = RX4 ∧ yX4_stepsInAll.cls ≠ "java/lang/invoke/MethodHandle" ∧ yX4_stepsInAll.cls ≠ "java/lang/invoke/VarHandle" ∧ (parseMethodDescriptor yX4_stepsInAll.desc).map (fun d => d.parameters.length) = some 0 := by decide +kernel
theorem hdX4_swap_3 : yX4_swap.cls = RX4 ∧ yX4_swap.cls ≠ "java/lang/invoke/MethodHandle" ∧ yX4_swap.cls ≠ "java/lang/invoke/VarHandle" ∧ (parseMethodDescriptor yX4_swap.desc).map (fun d => d.parameters.length) = some 3 := by decide +kernel
theorem hdX4_tellApart_3 : yX4_tellApart.cls = RX4 ∧ yX4_tellApart.cls ≠ "java/lang/invoke/MethodHandle" ∧ yX4_tellApart.cls ≠ "java/lang/invoke/VarHandle" ∧ (parseMethodDescriptor yX4_tellApart.desc).map (fun d => d.parameters.length) = some 3 := by decide +kernel
theorem hdX4_text_1 : yX4_text.cls = RX4 ∧ yX4_text.cls ≠ "java/lang/invoke/MethodHandle" ∧ yX4_text.cls ≠ "java/lang/invoke/VarHandle" ∧ (parseMethodDescriptor yX4_text.desc).map (fun d => d.parameters.length) = some 1 := by decide +kernel
theorem hdX4_thingsInAll_0 : yX4_thingsInAll.cls = RX4 ∧ yX4_thingsInAll.cls ≠ "java/lang/invoke/MethodHandle" ∧ yX4_thingsInAll.cls ≠ "java/lang/invoke/VarHandle" ∧ (parseMethodDescriptor yX4_thingsInAll.desc).map (fun d => d.parameters.length) = some 0 := by decide +kernel
theorem hdX4_turn_1 : yX4_turn.cls = RX4 ∧ yX4_turn.cls ≠ "java/lang/invoke/MethodHandle" ∧ yX4_turn.cls ≠ "java/lang/invoke/VarHandle" ∧ (parseMethodDescriptor yX4_turn.desc).map (fun d => d.parameters.length) = some 1 := by decide +kernel
theorem hdX4_turnRow_1 : yX4_turnRow.cls = RX4 ∧ yX4_turnRow.cls ≠ "java/lang/invoke/MethodHandle" ∧ yX4_turnRow.cls ≠ "java/lang/invoke/VarHandle" ∧ (parseMethodDescriptor yX4_turnRow.desc).map (fun d => d.parameters.length) = some 1 := by decide +kernel
theorem hdX4_unstep_1 : yX4_unstep.cls = RX4 ∧ yX4_unstep.cls ≠ "java/lang/invoke/MethodHandle" ∧ yX4_unstep.cls ≠ "java/lang/invoke/VarHandle" ∧ (parseMethodDescriptor yX4_unstep.desc).map (fun d => d.parameters.length) = some 1 := by decide +kernel
theorem hdX4_valueAt_2 : yX4_valueAt.cls = RX4 ∧ yX4_valueAt.cls ≠ "java/lang/invoke/MethodHandle" ∧ yX4_valueAt.cls ≠ "java/lang/invoke/VarHandle" ∧ (parseMethodDescriptor yX4_valueAt.desc).map (fun d => d.parameters.length) = some 2 := by decide +kernel
theorem hdX4_wheel_2 : yX4_wheel.cls = RX4 ∧ yX4_wheel.cls ≠ "java/lang/invoke/MethodHandle" ∧ yX4_wheel.cls ≠ "java/lang/invoke/VarHandle" ∧ (parseMethodDescriptor yX4_wheel.desc).map (fun d => d.parameters.length) = some 2 := by decide +kernel
theorem hdX4_wipe_1 : yX4_wipe.cls = RX4 ∧ yX4_wipe.cls ≠ "java/lang/invoke/MethodHandle" ∧ yX4_wipe.cls ≠ "java/lang/invoke/VarHandle" ∧ (parseMethodDescriptor yX4_wipe.desc).map (fun d => d.parameters.length) = some 1 := by decide +kernel
theorem hdX6_add_3 : yX6_add.cls = RX6 ∧ yX6_add.cls ≠ "java/lang/invoke/MethodHandle" ∧ yX6_add.cls ≠ "java/lang/invoke/VarHandle" ∧ (parseMethodDescriptor yX6_add.desc).map (fun d => d.parameters.length) = some 3 := by decide +kernel
theorem hdX6_ahead_3 : yX6_ahead.cls = RX6 ∧ yX6_ahead.cls ≠ "java/lang/invoke/MethodHandle" ∧ yX6_ahead.cls ≠ "java/lang/invoke/VarHandle" ∧ (parseMethodDescriptor yX6_ahead.desc).map (fun d => d.parameters.length) = some 3 := by decide +kernel
theorem hdX6_apart_2 : yX6_apart.cls = RX6 ∧ yX6_apart.cls ≠ "java/lang/invoke/MethodHandle" ∧ yX6_apart.cls ≠ "java/lang/invoke/VarHandle" ∧ (parseMethodDescriptor yX6_apart.desc).map (fun d => d.parameters.length) = some 2 := by decide +kernel
theorem hdX6_apartNow_2 : yX6_apartNow.cls = RX6 ∧ yX6_apartNow.cls ≠ "java/lang/invoke/MethodHandle" ∧ yX6_apartNow.cls ≠ "java/lang/invoke/VarHandle" ∧ (parseMethodDescriptor yX6_apartNow.desc).map (fun d => d.parameters.length) = some 2 := by decide +kernel
theorem hdX6_areSame_2 : yX6_areSame.cls = RX6 ∧ yX6_areSame.cls ≠ "java/lang/invoke/MethodHandle" ∧ yX6_areSame.cls ≠ "java/lang/invoke/VarHandle" ∧ (parseMethodDescriptor yX6_areSame.desc).map (fun d => d.parameters.length) = some 2 := by decide +kernel
theorem hdX6_at_3 : yX6_at.cls = RX6 ∧ yX6_at.cls ≠ "java/lang/invoke/MethodHandle" ∧ yX6_at.cls ≠ "java/lang/invoke/VarHandle" ∧ (parseMethodDescriptor yX6_at.desc).map (fun d => d.parameters.length) = some 3 := by decide +kernel
theorem hdX6_both_4 : yX6_both.cls = RX6 ∧ yX6_both.cls ≠ "java/lang/invoke/MethodHandle" ∧ yX6_both.cls ≠ "java/lang/invoke/VarHandle" ∧ (parseMethodDescriptor yX6_both.desc).map (fun d => d.parameters.length) = some 4 := by decide +kernel
theorem hdX6_bothNow_4 : yX6_bothNow.cls = RX6 ∧ yX6_bothNow.cls ≠ "java/lang/invoke/MethodHandle" ∧ yX6_bothNow.cls ≠ "java/lang/invoke/VarHandle" ∧ (parseMethodDescriptor yX6_bothNow.desc).map (fun d => d.parameters.length) = some 4 := by decide +kernel
theorem hdX6_change_3 : yX6_change.cls = RX6 ∧ yX6_change.cls ≠ "java/lang/invoke/MethodHandle" ∧ yX6_change.cls ≠ "java/lang/invoke/VarHandle" ∧ (parseMethodDescriptor yX6_change.desc).map (fun d => d.parameters.length) = some 3 := by decide +kernel
theorem hdX6_classes_1 : yX6_classes.cls = RX6 ∧ yX6_classes.cls ≠ "java/lang/invoke/MethodHandle" ∧ yX6_classes.cls ≠ "java/lang/invoke/VarHandle" ∧ (parseMethodDescriptor yX6_classes.desc).map (fun d => d.parameters.length) = some 1 := by decide +kernel
theorem hdX6_classesNow_1 : yX6_classesNow.cls = RX6 ∧ yX6_classesNow.cls ≠ "java/lang/invoke/MethodHandle" ∧ yX6_classesNow.cls ≠ "java/lang/invoke/VarHandle" ∧ (parseMethodDescriptor yX6_classesNow.desc).map (fun d => d.parameters.length) = some 1 := by decide +kernel
theorem hdX6_clear_1 : yX6_clear.cls = RX6 ∧ yX6_clear.cls ≠ "java/lang/invoke/MethodHandle" ∧ yX6_clear.cls ≠ "java/lang/invoke/VarHandle" ∧ (parseMethodDescriptor yX6_clear.desc).map (fun d => d.parameters.length) = some 1 := by decide +kernel
theorem hdX6_compare_3 : yX6_compare.cls = RX6 ∧ yX6_compare.cls ≠ "java/lang/invoke/MethodHandle" ∧ yX6_compare.cls ≠ "java/lang/invoke/VarHandle" ∧ (parseMethodDescriptor yX6_compare.desc).map (fun d => d.parameters.length) = some 3 := by decide +kernel
theorem hdX6_compareNow_3 : yX6_compareNow.cls = RX6 ∧ yX6_compareNow.cls ≠ "java/lang/invoke/MethodHandle" ∧ yX6_compareNow.cls ≠ "java/lang/invoke/VarHandle" ∧ (parseMethodDescriptor yX6_compareNow.desc).map (fun d => d.parameters.length) = some 3 := by decide +kernel
theorem hdX6_copyOrder_2 : yX6_copyOrder.cls = RX6 ∧ yX6_copyOrder.cls ≠ "java/lang/invoke/MethodHandle" ∧ yX6_copyOrder.cls ≠ "java/lang/invoke/VarHandle" ∧ (parseMethodDescriptor yX6_copyOrder.desc).map (fun d => d.parameters.length) = some 2 := by decide +kernel
theorem hdX6_copyRow_2 : yX6_copyRow.cls = RX6 ∧ yX6_copyRow.cls ≠ "java/lang/invoke/MethodHandle" ∧ yX6_copyRow.cls ≠ "java/lang/invoke/VarHandle" ∧ (parseMethodDescriptor yX6_copyRow.desc).map (fun d => d.parameters.length) = some 2 := by decide +kernel
theorem hdX6_digest_0 : yX6_digest.cls = RX6 ∧ yX6_digest.cls ≠ "java/lang/invoke/MethodHandle" ∧ yX6_digest.cls ≠ "java/lang/invoke/VarHandle" ∧ (parseMethodDescriptor yX6_digest.desc).map (fun d => d.parameters.length) = some 0 := by decide +kernel
theorem hdX6_drop_2 : yX6_drop.cls = RX6 ∧ yX6_drop.cls ≠ "java/lang/invoke/MethodHandle" ∧ yX6_drop.cls ≠ "java/lang/invoke/VarHandle" ∧ (parseMethodDescriptor yX6_drop.desc).map (fun d => d.parameters.length) = some 2 := by decide +kernel
theorem hdX6_extreme_3 : yX6_extreme.cls = RX6 ∧ yX6_extreme.cls ≠ "java/lang/invoke/MethodHandle" ∧ yX6_extreme.cls ≠ "java/lang/invoke/VarHandle" ∧ (parseMethodDescriptor yX6_extreme.desc).map (fun d => d.parameters.length) = some 3 := by decide +kernel
theorem hdX6_fill_4 : yX6_fill.cls = RX6 ∧ yX6_fill.cls ≠ "java/lang/invoke/MethodHandle" ∧ yX6_fill.cls ≠ "java/lang/invoke/VarHandle" ∧ (parseMethodDescriptor yX6_fill.desc).map (fun d => d.parameters.length) = some 4 := by decide +kernel
theorem hdX6_groups_2 : yX6_groups.cls = RX6 ∧ yX6_groups.cls ≠ "java/lang/invoke/MethodHandle" ∧ yX6_groups.cls ≠ "java/lang/invoke/VarHandle" ∧ (parseMethodDescriptor yX6_groups.desc).map (fun d => d.parameters.length) = some 2 := by decide +kernel
theorem hdX6_house_1 : yX6_house.cls = RX6 ∧ yX6_house.cls ≠ "java/lang/invoke/MethodHandle" ∧ yX6_house.cls ≠ "java/lang/invoke/VarHandle" ∧ (parseMethodDescriptor yX6_house.desc).map (fun d => d.parameters.length) = some 1 := by decide +kernel
theorem hdX6_houseNow_1 : yX6_houseNow.cls = RX6 ∧ yX6_houseNow.cls ≠ "java/lang/invoke/MethodHandle" ∧ yX6_houseNow.cls ≠ "java/lang/invoke/VarHandle" ∧ (parseMethodDescriptor yX6_houseNow.desc).map (fun d => d.parameters.length) = some 1 := by decide +kernel
theorem hdX6_isFirst_2 : yX6_isFirst.cls = RX6 ∧ yX6_isFirst.cls ≠ "java/lang/invoke/MethodHandle" ∧ yX6_isFirst.cls ≠ "java/lang/invoke/VarHandle" ∧ (parseMethodDescriptor yX6_isFirst.desc).map (fun d => d.parameters.length) = some 2 := by decide +kernel
theorem hdX6_isFirstOf_3 : yX6_isFirstOf.cls = RX6 ∧ yX6_isFirstOf.cls ≠ "java/lang/invoke/MethodHandle" ∧ yX6_isFirstOf.cls ≠ "java/lang/invoke/VarHandle" ∧ (parseMethodDescriptor yX6_isFirstOf.desc).map (fun d => d.parameters.length) = some 3 := by decide +kernel
theorem hdX6_isInSequence_2 : yX6_isInSequence.cls = RX6 ∧ yX6_isInSequence.cls ≠ "java/lang/invoke/MethodHandle" ∧ yX6_isInSequence.cls ≠ "java/lang/invoke/VarHandle" ∧ (parseMethodDescriptor yX6_isInSequence.desc).map (fun d => d.parameters.length) = some 2 := by decide +kernel
theorem hdX6_isNo_2 : yX6_isNo.cls = RX6 ∧ yX6_isNo.cls ≠ "java/lang/invoke/MethodHandle" ∧ yX6_isNo.cls ≠ "java/lang/invoke/VarHandle" ∧ (parseMethodDescriptor yX6_isNo.desc).map (fun d => d.parameters.length) = some 2 := by decide +kernel
theorem hdX6_isNoOrder_1 : yX6_isNoOrder.cls = RX6 ∧ yX6_isNoOrder.cls ≠ "java/lang/invoke/MethodHandle" ∧ yX6_isNoOrder.cls ≠ "java/lang/invoke/VarHandle" ∧ (parseMethodDescriptor yX6_isNoOrder.desc).map (fun d => d.parameters.length) = some 1 := by decide +kernel
theorem hdX6_isNoRow_1 : yX6_isNoRow.cls = RX6 ∧ yX6_isNoRow.cls ≠ "java/lang/invoke/MethodHandle" ∧ yX6_isNoRow.cls ≠ "java/lang/invoke/VarHandle" ∧ (parseMethodDescriptor yX6_isNoRow.desc).map (fun d => d.parameters.length) = some 1 := by decide +kernel
theorem hdX6_isNoValue_1 : yX6_isNoValue.cls = RX6 ∧ yX6_isNoValue.cls ≠ "java/lang/invoke/MethodHandle" ∧ yX6_isNoValue.cls ≠ "java/lang/invoke/VarHandle" ∧ (parseMethodDescriptor yX6_isNoValue.desc).map (fun d => d.parameters.length) = some 1 := by decide +kernel
theorem hdX6_isRefined_2 : yX6_isRefined.cls = RX6 ∧ yX6_isRefined.cls ≠ "java/lang/invoke/MethodHandle" ∧ yX6_isRefined.cls ≠ "java/lang/invoke/VarHandle" ∧ (parseMethodDescriptor yX6_isRefined.desc).map (fun d => d.parameters.length) = some 2 := by decide +kernel
theorem hdX6_isSorted_2 : yX6_isSorted.cls = RX6 ∧ yX6_isSorted.cls ≠ "java/lang/invoke/MethodHandle" ∧ yX6_isSorted.cls ≠ "java/lang/invoke/VarHandle" ∧ (parseMethodDescriptor yX6_isSorted.desc).map (fun d => d.parameters.length) = some 2 := by decide +kernel
theorem hdX6_isSound_0 : yX6_isSound.cls = RX6 ∧ yX6_isSound.cls ≠ "java/lang/invoke/MethodHandle" ∧ yX6_isSound.cls ≠ "java/lang/invoke/VarHandle" ∧ (parseMethodDescriptor yX6_isSound.desc).map (fun d => d.parameters.length) = some 0 := by decide +kernel
theorem hdX6_keyNow_2 : yX6_keyNow.cls = RX6 ∧ yX6_keyNow.cls ≠ "java/lang/invoke/MethodHandle" ∧ yX6_keyNow.cls ≠ "java/lang/invoke/VarHandle" ∧ (parseMethodDescriptor yX6_keyNow.desc).map (fun d => d.parameters.length) = some 2 := by decide +kernel
theorem hdX6_keyOf_2 : yX6_keyOf.cls = RX6 ∧ yX6_keyOf.cls ≠ "java/lang/invoke/MethodHandle" ∧ yX6_keyOf.cls ≠ "java/lang/invoke/VarHandle" ∧ (parseMethodDescriptor yX6_keyOf.desc).map (fun d => d.parameters.length) = some 2 := by decide +kernel
theorem hdX6_kinds_2 : yX6_kinds.cls = RX6 ∧ yX6_kinds.cls ≠ "java/lang/invoke/MethodHandle" ∧ yX6_kinds.cls ≠ "java/lang/invoke/VarHandle" ∧ (parseMethodDescriptor yX6_kinds.desc).map (fun d => d.parameters.length) = some 2 := by decide +kernel
theorem hdX6_kindsNow_2 : yX6_kindsNow.cls = RX6 ∧ yX6_kindsNow.cls ≠ "java/lang/invoke/MethodHandle" ∧ yX6_kindsNow.cls ≠ "java/lang/invoke/VarHandle" ∧ (parseMethodDescriptor yX6_kindsNow.desc).map (fun d => d.parameters.length) = some 2 := by decide +kernel
theorem hdX6_knock_0 : yX6_knock.cls = RX6 ∧ yX6_knock.cls ≠ "java/lang/invoke/MethodHandle" ∧ yX6_knock.cls ≠ "java/lang/invoke/VarHandle" ∧ (parseMethodDescriptor yX6_knock.desc).map (fun d => d.parameters.length) = some 0 := by decide +kernel
theorem hdX6_markAt_2 : yX6_markAt.cls = RX6 ∧ yX6_markAt.cls ≠ "java/lang/invoke/MethodHandle" ∧ yX6_markAt.cls ≠ "java/lang/invoke/VarHandle" ∧ (parseMethodDescriptor yX6_markAt.desc).map (fun d => d.parameters.length) = some 2 := by decide +kernel
theorem hdX6_near_4 : yX6_near.cls = RX6 ∧ yX6_near.cls ≠ "java/lang/invoke/MethodHandle" ∧ yX6_near.cls ≠ "java/lang/invoke/VarHandle" ∧ (parseMethodDescriptor yX6_near.desc).map (fun d => d.parameters.length) = some 4 := by decide +kernel
theorem hdX6_no_0 : yX6_no.cls = RX6 ∧ yX6_no.cls ≠ "java/lang/invoke/MethodHandle" ∧ yX6_no.cls ≠ "java/lang/invoke/VarHandle" ∧ (parseMethodDescriptor yX6_no.desc).map (fun d => d.parameters.length) = some 0 := by decide +kernel
theorem hdX6_orderText_1 : yX6_orderText.cls = RX6 ∧ yX6_orderText.cls ≠ "java/lang/invoke/MethodHandle" ∧ yX6_orderText.cls ≠ "java/lang/invoke/VarHandle" ∧ (parseMethodDescriptor yX6_orderText.desc).map (fun d => d.parameters.length) = some 1 := by decide +kernel
theorem hdX6_product_3 : yX6_product.cls = RX6 ∧ yX6_product.cls ≠ "java/lang/invoke/MethodHandle" ∧ yX6_product.cls ≠ "java/lang/invoke/VarHandle" ∧ (parseMethodDescriptor yX6_product.desc).map (fun d => d.parameters.length) = some 3 := by decide +kernel
theorem hdX6_put_2 : yX6_put.cls = RX6 ∧ yX6_put.cls ≠ "java/lang/invoke/MethodHandle" ∧ yX6_put.cls ≠ "java/lang/invoke/VarHandle" ∧ (parseMethodDescriptor yX6_put.desc).map (fun d => d.parameters.length) = some 2 := by decide +kernel
theorem hdX6_putAt_3 : yX6_putAt.cls = RX6 ∧ yX6_putAt.cls ≠ "java/lang/invoke/MethodHandle" ∧ yX6_putAt.cls ≠ "java/lang/invoke/VarHandle" ∧ (parseMethodDescriptor yX6_putAt.desc).map (fun d => d.parameters.length) = some 3 := by decide +kernel
theorem hdX6_rank_2 : yX6_rank.cls = RX6 ∧ yX6_rank.cls ≠ "java/lang/invoke/MethodHandle" ∧ yX6_rank.cls ≠ "java/lang/invoke/VarHandle" ∧ (parseMethodDescriptor yX6_rank.desc).map (fun d => d.parameters.length) = some 2 := by decide +kernel
theorem hdX6_rankNow_2 : yX6_rankNow.cls = RX6 ∧ yX6_rankNow.cls ≠ "java/lang/invoke/MethodHandle" ∧ yX6_rankNow.cls ≠ "java/lang/invoke/VarHandle" ∧ (parseMethodDescriptor yX6_rankNow.desc).map (fun d => d.parameters.length) = some 2 := by decide +kernel
theorem hdX6_ranks_3 : yX6_ranks.cls = RX6 ∧ yX6_ranks.cls ≠ "java/lang/invoke/MethodHandle" ∧ yX6_ranks.cls ≠ "java/lang/invoke/VarHandle" ∧ (parseMethodDescriptor yX6_ranks.desc).map (fun d => d.parameters.length) = some 3 := by decide +kernel
theorem hdX6_refines_2 : yX6_refines.cls = RX6 ∧ yX6_refines.cls ≠ "java/lang/invoke/MethodHandle" ∧ yX6_refines.cls ≠ "java/lang/invoke/VarHandle" ∧ (parseMethodDescriptor yX6_refines.desc).map (fun d => d.parameters.length) = some 2 := by decide +kernel
theorem hdX6_refuse_2 : yX6_refuse.cls = RX6 ∧ yX6_refuse.cls ≠ "java/lang/invoke/MethodHandle" ∧ yX6_refuse.cls ≠ "java/lang/invoke/VarHandle" ∧ (parseMethodDescriptor yX6_refuse.desc).map (fun d => d.parameters.length) = some 2 := by decide +kernel
theorem hdX6_search_3 : yX6_search.cls = RX6 ∧ yX6_search.cls ≠ "java/lang/invoke/MethodHandle" ∧ yX6_search.cls ≠ "java/lang/invoke/VarHandle" ∧ (parseMethodDescriptor yX6_search.desc).map (fun d => d.parameters.length) = some 3 := by decide +kernel
theorem hdX6_size_1 : yX6_size.cls = RX6 ∧ yX6_size.cls ≠ "java/lang/invoke/MethodHandle" ∧ yX6_size.cls ≠ "java/lang/invoke/VarHandle" ∧ (parseMethodDescriptor yX6_size.desc).map (fun d => d.parameters.length) = some 1 := by decide +kernel
theorem hdX6_sort_3 : yX6_sort.cls = RX6 ∧ yX6_sort.cls ≠ "java/lang/invoke/MethodHandle" ∧ yX6_sort.cls ≠ "java/lang/invoke/VarHandle" ∧ (parseMethodDescriptor yX6_sort.desc).map (fun d => d.parameters.length) = some 3 := by decide +kernel
theorem hdX6_sortPart_4 : yX6_sortPart.cls = RX6 ∧ yX6_sortPart.cls ≠ "java/lang/invoke/MethodHandle" ∧ yX6_sortPart.cls ≠ "java/lang/invoke/VarHandle" ∧ (parseMethodDescriptor yX6_sortPart.desc).map (fun d => d.parameters.length) = some 4 := by decide +kernel
theorem hdX6_sorted_4 : yX6_sorted.cls = RX6 ∧ yX6_sorted.cls ≠ "java/lang/invoke/MethodHandle" ∧ yX6_sorted.cls ≠ "java/lang/invoke/VarHandle" ∧ (parseMethodDescriptor yX6_sorted.desc).map (fun d => d.parameters.length) = some 4 := by decide +kernel
theorem hdX6_start_2 : yX6_start.cls = RX6 ∧ yX6_start.cls ≠ "java/lang/invoke/MethodHandle" ∧ yX6_start.cls ≠ "java/lang/invoke/VarHandle" ∧ (parseMethodDescriptor yX6_start.desc).map (fun d => d.parameters.length) = some 2 := by decide +kernel
theorem hdX6_step_3 : yX6_step.cls = RX6 ∧ yX6_step.cls ≠ "java/lang/invoke/MethodHandle" ∧ yX6_step.cls ≠ "java/lang/invoke/VarHandle" ∧ (parseMethodDescriptor yX6_step.desc).map (fun d => d.parameters.length) = some 3 := by decide +kernel
theorem hdX6_swap_3 : yX6_swap.cls = RX6 ∧ yX6_swap.cls ≠ "java/lang/invoke/MethodHandle" ∧ yX6_swap.cls ≠ "java/lang/invoke/VarHandle" ∧ (parseMethodDescriptor yX6_swap.desc).map (fun d => d.parameters.length) = some 3 := by decide +kernel
theorem hdX6_tellApart_3 : yX6_tellApart.cls = RX6 ∧ yX6_tellApart.cls ≠ "java/lang/invoke/MethodHandle" ∧ yX6_tellApart.cls ≠ "java/lang/invoke/VarHandle" ∧ (parseMethodDescriptor yX6_tellApart.desc).map (fun d => d.parameters.length) = some 3 := by decide +kernel
theorem hdX6_text_1 : yX6_text.cls = RX6 ∧ yX6_text.cls ≠ "java/lang/invoke/MethodHandle" ∧ yX6_text.cls ≠ "java/lang/invoke/VarHandle" ∧ (parseMethodDescriptor yX6_text.desc).map (fun d => d.parameters.length) = some 1 := by decide +kernel
theorem hdX6_thrown_0 : yX6_thrown.cls = RX6 ∧ yX6_thrown.cls ≠ "java/lang/invoke/MethodHandle" ∧ yX6_thrown.cls ≠ "java/lang/invoke/VarHandle" ∧ (parseMethodDescriptor yX6_thrown.desc).map (fun d => d.parameters.length) = some 0 := by decide +kernel
theorem hdX6_turn_1 : yX6_turn.cls = RX6 ∧ yX6_turn.cls ≠ "java/lang/invoke/MethodHandle" ∧ yX6_turn.cls ≠ "java/lang/invoke/VarHandle" ∧ (parseMethodDescriptor yX6_turn.desc).map (fun d => d.parameters.length) = some 1 := by decide +kernel
theorem hdX6_turnRow_1 : yX6_turnRow.cls = RX6 ∧ yX6_turnRow.cls ≠ "java/lang/invoke/MethodHandle" ∧ yX6_turnRow.cls ≠ "java/lang/invoke/VarHandle" ∧ (parseMethodDescriptor yX6_turnRow.desc).map (fun d => d.parameters.length) = some 1 := by decide +kernel
theorem hdX6_unstep_1 : yX6_unstep.cls = RX6 ∧ yX6_unstep.cls ≠ "java/lang/invoke/MethodHandle" ∧ yX6_unstep.cls ≠ "java/lang/invoke/VarHandle" ∧ (parseMethodDescriptor yX6_unstep.desc).map (fun d => d.parameters.length) = some 1 := by decide +kernel
theorem hdX6_valueAt_2 : yX6_valueAt.cls = RX6 ∧ yX6_valueAt.cls ≠ "java/lang/invoke/MethodHandle" ∧ yX6_valueAt.cls ≠ "java/lang/invoke/VarHandle" ∧ (parseMethodDescriptor yX6_valueAt.desc).map (fun d => d.parameters.length) = some 2 := by decide +kernel
theorem hdX6_wheel_2 : yX6_wheel.cls = RX6 ∧ yX6_wheel.cls ≠ "java/lang/invoke/MethodHandle" ∧ yX6_wheel.cls ≠ "java/lang/invoke/VarHandle" ∧ (parseMethodDescriptor yX6_wheel.desc).map (fun d => d.parameters.length) = some 2 := by decide +kernel
theorem hdX6_wipe_1 : yX6_wipe.cls = RX6 ∧ yX6_wipe.cls ≠ "java/lang/invoke/MethodHandle" ∧ yX6_wipe.cls ≠ "java/lang/invoke/VarHandle" ∧ (parseMethodDescriptor yX6_wipe.desc).map (fun d => d.parameters.length) = some 1 := by decide +kernel
end
section
/-! small rows behind the code: worlds written twice, a falling counter, comparisons by codes -/
theorem xR_xR (S : XS) (i : Nat) (r r' : RowS) : xR (xR S i r) i r' = xR S i r' := by
  unfold xR
  rw [bx_uu]
theorem xO_xO (S : XS) (i : Nat) (o o' : OrdS) : xO (xO S i o) i o' = xO S i o' := by
  unfold xO
  dsimp only
  rw [bx_uu]
theorem xR_self (S : XS) (i : Nat) : xR S i (S.1 i) = S := by
  unfold xR
  have h : va_up S.1 i (S.1 i) = S.1 := by
    funext j
    unfold va_up
    split
    · rename_i h; rw [h]
    · rfl
  rw [h]
theorem xO_self (S : XS) (i : Nat) : xO S i (S.2.1 i) = S := by
  unfold xO
  have h : va_up S.2.1 i (S.2.1 i) = S.2.1 := by
    funext j
    unfold va_up
    split
    · rename_i h; rw [h]
    · rfl
  rw [h]
theorem xO_row (S : XS) (i : Nat) (o : OrdS) : (xO S i o).1 = S.1 := rfl
theorem kn_dec {a : Nat} (h : 1 ≤ a) : nI a + Int32.ofInt (-1) = nI (a - 1) := by
  obtain ⟨b, rfl⟩ : ∃ b, a = b + 1 := ⟨a - 1, by omega⟩
  exact pk_m1 b
/-- how two numbers compare, as compareTo tells it -/
def cmpI (a b : Nat) : Int32 := if a < b then -1 else if b < a then 1 else 0
theorem cmpI_lt {a b : Nat} (h : a < b) : cmpI a b = -1 := if_pos h
theorem cmpI_gt {a b : Nat} (h : b < a) : cmpI a b = 1 := by rw [cmpI, if_neg (by omega), if_pos h]
theorem cmpI_eq {a b : Nat} (h : a = b) : cmpI a b = 0 := by rw [cmpI, if_neg (by omega), if_neg (by omega)]
theorem cmpI_neg (a b : Nat) : -cmpI a b = cmpI b a := by
  rcases Nat.lt_trichotomy a b with h | h | h
  · rw [cmpI_lt h, cmpI_gt h]; decide
  · rw [cmpI_eq h, cmpI_eq h.symm]; decide
  · rw [cmpI_gt h, cmpI_lt h]
theorem cmpI_0 {a b : Nat} : cmpI a b = 0 ↔ a = b := by
  rcases Nat.lt_trichotomy a b with h | h | h
  · rw [cmpI_lt h]; exact ⟨fun q => absurd q (by decide), fun q => by omega⟩
  · rw [cmpI_eq h]; exact ⟨fun _ => h, fun _ => rfl⟩
  · rw [cmpI_gt h]; exact ⟨fun q => absurd q (by decide), fun q => by omega⟩
theorem cmpI_l {a b : Nat} : cmpI a b < 0 ↔ a < b := by
  rcases Nat.lt_trichotomy a b with h | h | h
  · rw [cmpI_lt h]; exact ⟨fun _ => h, fun _ => by decide⟩
  · rw [cmpI_eq h]; exact ⟨fun q => absurd q (by decide), fun q => by omega⟩
  · rw [cmpI_gt h]; exact ⟨fun q => absurd q (by decide), fun q => by omega⟩
theorem cmpI_ge {a b : Nat} : 0 ≤ cmpI a b ↔ b ≤ a := by
  rcases Nat.lt_trichotomy a b with h | h | h
  · rw [cmpI_lt h]; exact ⟨fun q => absurd q (by decide), fun q => by omega⟩
  · rw [cmpI_eq h]; exact ⟨fun _ => by omega, fun _ => by decide⟩
  · rw [cmpI_gt h]; exact ⟨fun _ => by omega, fun _ => by decide⟩
theorem cmpI_g {a b : Nat} : 0 < cmpI a b ↔ b < a := by
  rcases Nat.lt_trichotomy a b with h | h | h
  · rw [cmpI_lt h]; exact ⟨fun q => absurd q (by decide), fun q => by omega⟩
  · rw [cmpI_eq h]; exact ⟨fun q => absurd q (by decide), fun q => by omega⟩
  · rw [cmpI_gt h]; exact ⟨fun _ => h, fun _ => by decide⟩
theorem cmpI_le {a b : Nat} : cmpI a b ≤ 0 ↔ a ≤ b := by
  rcases Nat.lt_trichotomy a b with h | h | h
  · rw [cmpI_lt h]; exact ⟨fun _ => by omega, fun _ => by decide⟩
  · rw [cmpI_eq h]; exact ⟨fun _ => by omega, fun _ => by decide⟩
  · rw [cmpI_gt h]; exact ⟨fun q => absurd q (by decide), fun q => by omega⟩
theorem WX.preSor {dC : Nat → ClassId} {dI : Nat → Nat → Nat} {ad : Nat → Nat} {S : XS} {A : Nat → Prop} {s : State} {H : Heap} {locs : List Loc} (h : WX dC dI ad S A s H locs) {w : Nat} (hw : w < 2) {As : List Value} : PreV s H RX3 (ad (54 + w)) (va_Pc (Value.ref (ad (54 + w)) :: As) (PX dC dI ad S)) As :=
  ⟨PX.blind, va_recv h.2.1 h.1 (ci := 5) (q0 := 54 + w) rfl (wX_sorter hw), fun _ hU hW => ⟨rfl, h.P hU hW⟩⟩
theorem cmp_lN {a b : Nat} (ha : a < 2 ^ 62) (hb : b < 2 ^ 62) : lg_cmp (lN a) (lN b) = cmpI a b := by
  have ha' : a < 2 ^ 63 := by omega
  have hb' : b < 2 ^ 63 := by omega
  unfold lg_cmp
  rcases Nat.lt_trichotomy a b with h | h | h
  · rw [cmpI_lt h, if_neg (show ¬ lN b < lN a by rw [pk_lLT hb' ha']; omega), if_neg (by rw [pk_lEQ ha' hb']; omega)]
  · rw [cmpI_eq h, if_neg (show ¬ lN b < lN a by rw [pk_lLT hb' ha']; omega), if_pos (by rw [pk_lEQ ha' hb']; omega)]
  · rw [cmpI_gt h, if_pos (show lN b < lN a by rw [pk_lLT hb' ha']; omega)]
section KC
variable {p : Program} {l : Launch} {e : Env} {R : Room} {s : State} {m : MethodId} {args : Array Value} {below : List Frame} {meth : Method} {c : Code} {H : Heap} {locs : List Loc} {cells slots : Nat} {Q : State → Prop}
variable {cc : ByteArray} {pc : Nat} {ls : Array Slot} {rest : List Value} {off : Int} {tgt : Nat} {a b : Nat} {z : Bool}
theorem kc_if_lt (hx : p.tables.exec = Jvm.exec) (hb : c.code = cc) (hdg : decode cc pc = .ok (.ifCond .lt off, 3)) (ht : (pc : Int) + off = (tgt : Int)) (kt : a < b → W p l e R s m args below meth c H locs cells slots Q (F0 m tgt ls rest)) (kf : b ≤ a → W p l e R s m args below meth c H locs cells slots Q (F0 m (pc + 3) ls rest)) : W p l e R s m args below meth c H locs cells slots Q (F0 m pc ls (.int (cmpI a b) :: rest)) :=
  lv_if_lt hx hb hdg ht (fun h => kt (cmpI_l.mp h)) (fun h => kf (by rw [cmpI_l] at h; omega))
theorem kc_if_ge (hx : p.tables.exec = Jvm.exec) (hb : c.code = cc) (hdg : decode cc pc = .ok (.ifCond .ge off, 3)) (ht : (pc : Int) + off = (tgt : Int)) (kt : b ≤ a → W p l e R s m args below meth c H locs cells slots Q (F0 m tgt ls rest)) (kf : a < b → W p l e R s m args below meth c H locs cells slots Q (F0 m (pc + 3) ls rest)) : W p l e R s m args below meth c H locs cells slots Q (F0 m pc ls (.int (cmpI a b) :: rest)) :=
  lv_if_ge hx hb hdg ht (fun h => kt (cmpI_ge.mp h)) (fun h => kf (by rw [cmpI_ge] at h; omega))
theorem kc_if_gt (hx : p.tables.exec = Jvm.exec) (hb : c.code = cc) (hdg : decode cc pc = .ok (.ifCond .gt off, 3)) (ht : (pc : Int) + off = (tgt : Int)) (kt : b < a → W p l e R s m args below meth c H locs cells slots Q (F0 m tgt ls rest)) (kf : a ≤ b → W p l e R s m args below meth c H locs cells slots Q (F0 m (pc + 3) ls rest)) : W p l e R s m args below meth c H locs cells slots Q (F0 m pc ls (.int (cmpI a b) :: rest)) :=
  lv_if_gt hx hb hdg ht (fun h => kt (cmpI_g.mp h)) (fun h => kf (by rw [cmpI_g] at h; omega))
theorem kc_if_le (hx : p.tables.exec = Jvm.exec) (hb : c.code = cc) (hdg : decode cc pc = .ok (.ifCond .le off, 3)) (ht : (pc : Int) + off = (tgt : Int)) (kt : a ≤ b → W p l e R s m args below meth c H locs cells slots Q (F0 m tgt ls rest)) (kf : b < a → W p l e R s m args below meth c H locs cells slots Q (F0 m (pc + 3) ls rest)) : W p l e R s m args below meth c H locs cells slots Q (F0 m pc ls (.int (cmpI a b) :: rest)) :=
  lv_if_le hx hb hdg ht (fun h => kt (cmpI_le.mp h)) (fun h => kf (by rw [cmpI_le] at h; omega))
theorem kc_if_eq (hx : p.tables.exec = Jvm.exec) (hb : c.code = cc) (hdg : decode cc pc = .ok (.ifCond .eq off, 3)) (ht : (pc : Int) + off = (tgt : Int)) (kt : a = b → W p l e R s m args below meth c H locs cells slots Q (F0 m tgt ls rest)) (kf : a ≠ b → W p l e R s m args below meth c H locs cells slots Q (F0 m (pc + 3) ls rest)) : W p l e R s m args below meth c H locs cells slots Q (F0 m pc ls (.int (cmpI a b) :: rest)) :=
  lv_if_eq hx hb hdg ht (fun h => kt (cmpI_0.mp h)) (fun h => kf (fun q => h (cmpI_0.mpr q)))
theorem kc_if_ne (hx : p.tables.exec = Jvm.exec) (hb : c.code = cc) (hdg : decode cc pc = .ok (.ifCond .ne off, 3)) (ht : (pc : Int) + off = (tgt : Int)) (kt : a ≠ b → W p l e R s m args below meth c H locs cells slots Q (F0 m tgt ls rest)) (kf : a = b → W p l e R s m args below meth c H locs cells slots Q (F0 m (pc + 3) ls rest)) : W p l e R s m args below meth c H locs cells slots Q (F0 m pc ls (.int (cmpI a b) :: rest)) :=
  lv_if_ne hx hb hdg ht (fun h => kt (fun q => h (cmpI_0.mpr q))) (fun h => kf (cmpI_0.mp h))
/-- lcmp of codes -/
theorem kc_lcmp (hx : p.tables.exec = Jvm.exec) (hb : c.code = cc) (ha : a < 2 ^ 62) (hb2 : b < 2 ^ 62) (hdg : decode cc pc = .ok (.lcmp, 1)) (kk : W p l e R s m args below meth c H locs cells slots Q (F0 m (pc + 1) ls (.int (cmpI a b) :: rest))) : W p l e R s m args below meth c H locs cells slots Q (F0 m pc ls (.long (lN b) :: .long (lN a) :: rest)) := by
  refine W.lcmp hx hb hdg ?_
  rw [cmp_lN ha hb2]
  exact kk
theorem kn_ladd (hx : p.tables.exec = Jvm.exec) (hb : c.code = cc) (hdg : decode cc pc = .ok (.ladd, 1)) (kk : W p l e R s m args below meth c H locs cells slots Q (F0 m (pc + 1) ls (.long (lN (a + b)) :: rest))) : W p l e R s m args below meth c H locs cells slots Q (F0 m pc ls (.long (lN b) :: .long (lN a) :: rest)) :=
  lv_ladd hx hb hdg (by rw [lN_add]; exact kk)
theorem kn_lmul (hx : p.tables.exec = Jvm.exec) (hb : c.code = cc) (hdg : decode cc pc = .ok (.lmul, 1)) (kk : W p l e R s m args below meth c H locs cells slots Q (F0 m (pc + 1) ls (.long (lN (a * b)) :: rest))) : W p l e R s m args below meth c H locs cells slots Q (F0 m pc ls (.long (lN b) :: .long (lN a) :: rest)) :=
  lv_lmul hx hb hdg (by rw [lN_mul]; exact kk)
theorem kn_idiv (hx : p.tables.exec = Jvm.exec) (hb : c.code = cc) (ha : a < 2 ^ 31) (h0 : 0 < b) (hb2 : b < 2 ^ 31) (hdg : decode cc pc = .ok (.idiv, 1)) (kk : W p l e R s m args below meth c H locs cells slots Q (F0 m (pc + 1) ls (.int (nI (a / b)) :: rest))) : W p l e R s m args below meth c H locs cells slots Q (F0 m pc ls (.int (nI b) :: .int (nI a) :: rest)) :=
  lv_idiv hx hb hdg (nI_ne0 h0 hb2) (by rw [pk_div ha h0 hb2]; exact kk)
theorem kn_irem (hx : p.tables.exec = Jvm.exec) (hb : c.code = cc) (ha : a < 2 ^ 31) (h0 : 0 < b) (hb2 : b < 2 ^ 31) (hdg : decode cc pc = .ok (.irem, 1)) (kk : W p l e R s m args below meth c H locs cells slots Q (F0 m (pc + 1) ls (.int (nI (a % b)) :: rest))) : W p l e R s m args below meth c H locs cells slots Q (F0 m pc ls (.int (nI b) :: .int (nI a) :: rest)) :=
  lv_irem hx hb hdg (nI_ne0 h0 hb2) (by rw [pk_rem ha h0 hb2]; exact kk)
end KC
/-! counting and finding -/
def cntB (p : Nat → Bool) : Nat → Nat
  | 0 => 0
  | n + 1 => cntB p n + (if p n then 1 else 0)
theorem cntB_t {p : Nat → Bool} {n : Nat} (h : p n = true) : cntB p (n + 1) = cntB p n + 1 := by rw [cntB, h]; rfl
theorem cntB_f {p : Nat → Bool} {n : Nat} (h : p n = false) : cntB p (n + 1) = cntB p n := by rw [cntB, h]; rfl
theorem cntB_le (p : Nat → Bool) : ∀ n, cntB p n ≤ n
  | 0 => Nat.le_refl 0
  | n + 1 => by
    have h := cntB_le p n
    rw [cntB]
    split <;> omega
theorem cntB_cong {p q : Nat → Bool} : ∀ {n : Nat}, (∀ k, k < n → p k = q k) → cntB p n = cntB q n
  | 0, _ => rfl
  | n + 1, h => by rw [cntB, cntB, cntB_cong (fun k hk => h k (by omega)), h n (by omega)]
def bestB (p : Nat → Bool) (lt : Nat → Nat → Bool) : Nat → Option Nat
  | 0 => none
  | n + 1 => if p n then (match bestB p lt n with | none => some n | some b => if lt n b then some n else some b) else bestB p lt n
theorem bestB_lt {p : Nat → Bool} {lt : Nat → Nat → Bool} : ∀ {n b : Nat}, bestB p lt n = some b → b < n ∧ p b = true
  | 0, b, h => by cases h
  | n + 1, b, h => by
    rw [bestB] at h
    by_cases hp : p n = true
    · rw [if_pos hp] at h
      cases hb : bestB p lt n with
      | none => rw [hb] at h; cases h; exact ⟨Nat.lt_succ_self _, hp⟩
      | some b' =>
        rw [hb] at h
        dsimp only at h
        split at h
        · cases h; exact ⟨Nat.lt_succ_self _, hp⟩
        · cases h
          have := bestB_lt hb
          exact ⟨by omega, this.2⟩
    · rw [if_neg hp] at h
      have := bestB_lt h
      exact ⟨by omega, this.2⟩
theorem bestB_no {p : Nat → Bool} {lt : Nat → Nat → Bool} {n : Nat} (h : p n = false) : bestB p lt (n + 1) = bestB p lt n := by rw [bestB, h]; rfl
theorem bestB_first {p : Nat → Bool} {lt : Nat → Nat → Bool} {n : Nat} (h : p n = true) (hb : bestB p lt n = none) : bestB p lt (n + 1) = some n := by rw [bestB, h, hb]; rfl
theorem bestB_new {p : Nat → Bool} {lt : Nat → Nat → Bool} {n b : Nat} (h : p n = true) (hb : bestB p lt n = some b) (hl : lt n b = true) : bestB p lt (n + 1) = some n := by rw [bestB, h, hb]; simp [hl]
theorem bestB_old {p : Nat → Bool} {lt : Nat → Nat → Bool} {n b : Nat} (h : p n = true) (hb : bestB p lt n = some b) (hl : lt n b = false) : bestB p lt (n + 1) = some b := by rw [bestB, h, hb]; simp [hl]
theorem bestB_some {lt : Nat → Nat → Bool} {n : Nat} (h : 0 < n) : ∃ b, bestB (fun _ => true) lt n = some b := by
  obtain ⟨k, rfl⟩ : ∃ k, n = k + 1 := ⟨n - 1, by omega⟩
  rw [bestB]
  cases hb : bestB (fun _ => true) lt k with
  | none => exact ⟨k, rfl⟩
  | some b =>
    by_cases hl : lt k b = true
    · exact ⟨k, by simp [hl]⟩
    · exact ⟨b, by simp [hl]⟩
def oI (o : Option Nat) : Int32 := match o with
  | none => -1
  | some k => nI k
theorem kd_t {P : Prop} [Decidable P] (h : P) : bI true = bI (decide P) := congrArg bI (decide_eq_true h).symm
theorem kd_f {P : Prop} [Decidable P] (h : ¬ P) : bI false = bI (decide P) := congrArg bI (decide_eq_false h).symm
/-! values by keys, codes, classes, ranks -/
def numK (k v : Nat) : Nat := match k with
  | 0 => v
  | 1 => v / 4
  | 2 => v % 4
  | 3 => v % 2
  | 4 => v % 3
  | 5 => if v < 8 then 7 - v else v - 8
  | 6 => v / 8 + v / 4 % 2 + v / 2 % 2 + v % 2
  | _ => 0
theorem numK_lt {k v : Nat} (hv : v < 16) : numK k v < 16 := by
  unfold numK
  split <;> (try split) <;> omega
def digK (k : Nat) (d : Bool) (v : Nat) : Nat := if d then 15 - numK k v else numK k v
theorem digK_lt {k : Nat} {d : Bool} {v : Nat} (hv : v < 16) : digK k d v < 16 := by
  have := numK_lt (k := k) hv
  unfold digK
  split <;> omega
def codeOf (K : Nat → Nat) (D : Nat → Bool) : Nat → Nat → Nat
  | 0, _ => 0
  | n + 1, v => codeOf K D n v * 16 + digK (K n) (D n) v
theorem codeOf_lt (K : Nat → Nat) (D : Nat → Bool) {v : Nat} (hv : v < 16) : ∀ n, codeOf K D n v < 16 ^ n
  | 0 => Nat.lt_succ_self 0
  | n + 1 => by
    have h := codeOf_lt K D hv n
    have h2 := digK_lt (k := K n) (d := D n) hv
    rw [codeOf, Nat.pow_succ]
    omega
theorem codeOf_cong {K K' : Nat → Nat} {D D' : Nat → Bool} {v : Nat} : ∀ {n : Nat}, (∀ k, k < n → K k = K' k ∧ D k = D' k) → codeOf K D n v = codeOf K' D' n v
  | 0, _ => rfl
  | n + 1, h => by rw [codeOf, codeOf, codeOf_cong (fun k hk => h k (by omega)), (h n (by omega)).1, (h n (by omega)).2]
def headB (c : Nat → Nat) (h : Nat) : Bool := decide (∀ k, k < h → c k ≠ c h)
def classC (c : Nat → Nat) : Nat := cntB (headB c) 16
def rankC (c : Nat → Nat) (v : Nat) : Nat := cntB (fun h => headB c h && decide (c h < c v)) 16
/-- a row in bounds -/
def rowOK (r : RowS) : Prop := r.2.2 ≤ 16 ∧ ∀ k, k < 16 → r.1 k < 16 ∧ r.2.1 k < 1000000
/-- an order's steps in bounds -/
def stepOK (o : OrdS) : Prop := o.2.2.2.2.1 ≤ 10 ∧ ∀ k, k < 10 → o.1 k < 8
/-- an order in bounds and settled -/
def ordOK (o : OrdS) : Prop := stepOK o ∧ (∀ v, v < 16 → o.2.2.1 v = codeOf o.1 o.2.1 o.2.2.2.2.1 v) ∧ (∀ v, v < 16 → o.2.2.2.1 v = rankC (codeOf o.1 o.2.1 o.2.2.2.2.1) v) ∧ o.2.2.2.2.2 = classC (codeOf o.1 o.2.1 o.2.2.2.2.1)
theorem pow16_le {n : Nat} (h : n ≤ 10) : 16 ^ n ≤ 2 ^ 40 := by
  have : (16 : Nat) ^ n ≤ 16 ^ 10 := Nat.pow_le_pow_right (by decide) h
  exact Nat.le_trans this (by decide)
theorem ordOK.code {o : OrdS} (h : ordOK o) {v : Nat} (hv : v < 16) : o.2.2.1 v < 2 ^ 40 := by
  rw [h.2.1 v hv]
  exact Nat.lt_of_lt_of_le (codeOf_lt _ _ hv _) (pow16_le h.1.1)
theorem rankC_le (c : Nat → Nat) (v : Nat) : rankC c v ≤ 16 := cntB_le _ 16
theorem classC_le (c : Nat → Nat) : classC c ≤ 16 := cntB_le _ 16
theorem WX.eqS {dC : Nat → ClassId} {dI : Nat → Nat → Nat} {ad : Nat → Nat} {S S' : XS} {A : Nat → Prop} {s : State} {H : Heap} {locs : List Loc} (e : S = S') (h : WX dC dI ad S A s H locs) : WX dC dI ad S' A s H locs := by
  subst e
  exact h
end
section
/-! rows' contents changed: two places exchanged, a part moved up or down, a part laid over -/
def xch (f : Nat → Nat) (a b : Nat) : Nat → Nat := va_up (va_up f a (f b)) b (f a)
def shr (f : Nat → Nat) (n a : Nat) : Nat → Nat := fun k => if a < k ∧ k ≤ n then f (k - 1) else f k
theorem shr_n (f : Nat → Nat) (n : Nat) : shr f n n = f := by
  funext k
  unfold shr
  rw [if_neg (by omega)]
theorem shr_lo (f : Nat → Nat) {n a k : Nat} (h : k ≤ a) : shr f n a k = f k := by
  unfold shr
  rw [if_neg (by omega)]
theorem shr_up (f : Nat → Nat) {n a : Nat} (h : 1 ≤ a) (h2 : a ≤ n) : va_up (shr f n a) a (f (a - 1)) = shr f n (a - 1) := by
  funext k
  unfold va_up shr
  by_cases e : k = a
  · subst e; rw [if_pos rfl, if_pos (by omega)]
  · rw [if_neg e]
    by_cases h3 : a < k ∧ k ≤ n
    · rw [if_pos h3, if_pos (by omega)]
    · rw [if_neg h3, if_neg (by omega)]
def shl (f : Nat → Nat) (q a : Nat) : Nat → Nat := fun k => if q ≤ k ∧ k < a then f (k + 1) else f k
theorem shl_q (f : Nat → Nat) (q : Nat) : shl f q q = f := by
  funext k
  unfold shl
  rw [if_neg (by omega)]
theorem shl_hi (f : Nat → Nat) {q a k : Nat} (h : a ≤ k) : shl f q a k = f k := by
  unfold shl
  rw [if_neg (by omega)]
theorem shl_up (f : Nat → Nat) {q a : Nat} (h : q ≤ a) : va_up (shl f q a) a (f (a + 1)) = shl f q (a + 1) := by
  funext k
  unfold va_up shl
  by_cases e : k = a
  · subst e; rw [if_pos rfl, if_pos (by omega)]
  · rw [if_neg e]
    by_cases h3 : q ≤ k ∧ k < a
    · rw [if_pos h3, if_pos (by omega)]
    · rw [if_neg h3, if_neg (by omega)]
def ovl {α : Type} (f g : Nat → α) (n : Nat) : Nat → α := fun k => if k < n then f k else g k
theorem ovl_0 {α : Type} (f g : Nat → α) : ovl f g 0 = g := by
  funext k
  unfold ovl
  rw [if_neg (by omega)]
theorem ovl_up {α : Type} (f g : Nat → α) (n : Nat) : va_up (ovl f g n) n (f n) = ovl f g (n + 1) := by
  funext k
  unfold va_up ovl
  by_cases e : k = n
  · subst e; rw [if_pos rfl, if_pos (by omega)]
  · rw [if_neg e]
    by_cases h3 : k < n
    · rw [if_pos h3, if_pos (by omega)]
    · rw [if_neg h3, if_neg (by omega)]
theorem ovl_in {α : Type} {f g : Nat → α} {n k : Nat} (h : k < n) : ovl f g n k = f k := if_pos h
theorem ovl_out {α : Type} {f g : Nat → α} {n k : Nat} (h : n ≤ k) : ovl f g n k = g k := if_neg (by omega)
theorem ovl_src1 (S : XS) (i t a : Nat) (M : Nat → Nat) (n : Nat) : ((xR S i (ovl (S.1 t).1 (S.1 i).1 a, M, n)).1 t).1 a = (S.1 t).1 a := by
  by_cases h : t = i
  · subst h
    rw [xR_row]
    exact ovl_out (Nat.le_refl a)
  · rw [xR_ne _ _ h]
theorem ovl_src2 (S : XS) (i t a : Nat) (V : Nat → Nat) (n : Nat) : ((xR S i (V, ovl (S.1 t).2.1 (S.1 i).2.1 a, n)).1 t).2.1 a = (S.1 t).2.1 a := by
  by_cases h : t = i
  · subst h
    rw [xR_row]
    exact ovl_out (Nat.le_refl a)
  · rw [xR_ne _ _ h]
set_option maxHeartbeats 4000000 in
set_option maxRecDepth 100000 in
theorem m_X2_length (l : Launch) (dC : Nat → ClassId) (dI : Nat → Nat → Nat) (ad : Nat → Nat) (S : XS) (i : Nat) (hi : i < 8) : Met l yX2_length wsX2_length ({ frames := 0, cells := 0, slots := 0, locals := 0 } : Room) (va_Pc [.ref (ad (3 * i))] (PX dC dI ad S)) (vp_Si (fun r => r = nI (S.1 i).2.2)) 0 0 (fun _ => False) := by
  refine Met.ofW (cc := cX2_length) (maxL := 1) (ret := (some .int)) pl_X2 rfl ?_
  intro p e s m args below meth c s₁ B hml hv
  obtain ⟨rfl, hPX⟩ := hv
  have hx := B.exec
  have hb := B.bytes
  have hr := B.returns
  have hts := atoms_spec (ws := wsX2_length) B.pre
  have hown : s.vm.findClass RX2 = some m.cls := findClass_of_methodNamed B.named
  have hlocks := B.notSynchronized
  have hin2 : ∀ w ∈ u_ws RX2 TX2 3, w ∈ wsX2_length := tu 1322 (by decide +kernel) rfl
  have hX := WX.of hPX
  have hl := lv_entry ([.ref (ad (3 * i))]) (n := 1) (Nat.le_of_ble_eq_true rfl)
  rw [lg_entry_eq]
  generalize (lg_sl ([.ref (ad (3 * i))]) ++ List.replicate (1 - (lg_sl ([.ref (ad (3 * i))])).length) Slot.unset).toArray = ls at hl ⊢
  have hl : lv_has ls 1 [(0, .ref (ad (3 * i)))] := hl
  show W p l e ({ frames := 0, cells := 0, slots := 0, locals := 0 } : Room) s m ([.ref (ad (3 * i))]).toArray below meth c s.heap [] 0 0 (MQ below (vp_Si (fun r => r = nI (S.1 i).2.2)) ([.ref (ad (3 * i))]).toArray s 0 0 (fun _ => False)) (F0 m 0 ls [])
  refine lv_aload_n hx hb dX2_length_0 rfl (lv_at hl 0 rfl) ?_
  refine kr_gn (n := (S.1 i).2.2) hx hb hts hin2 hown hX hi rfl (hts (.fieldLink RX2 18 "Orderlattice$Row" "many" "I") (tm 27 (by decide +kernel) rfl)) dX2_length_1 ?_
  exact W.iret (v := nI ((S.1 i).2.2)) hx hb hr (fun t9 ht9 hW9 => ⟨_, rfl, rfl, ht9⟩) (fun _ h => nomatch h) dX2_length_4
set_option maxHeartbeats 4000000 in
set_option maxRecDepth 100000 in
theorem m_X2_valueOn (l : Launch) (dC : Nat → ClassId) (dI : Nat → Nat → Nat) (ad : Nat → Nat) (S : XS) (i k : Nat) (hi : i < 8) (hk : k < 16) : Met l yX2_valueOn wsX2_valueOn ({ frames := 0, cells := 0, slots := 0, locals := 0 } : Room) (va_Pc [.ref (ad (3 * i)), .int (nI k)] (PX dC dI ad S)) (vp_Si (fun r => r = nI ((S.1 i).1 k))) 0 0 (fun _ => False) := by
  refine Met.ofW (cc := cX2_valueOn) (maxL := 2) (ret := (some .int)) pl_X2 rfl ?_
  intro p e s m args below meth c s₁ B hml hv
  obtain ⟨rfl, hPX⟩ := hv
  have hx := B.exec
  have hb := B.bytes
  have hr := B.returns
  have hts := atoms_spec (ws := wsX2_valueOn) B.pre
  have hown : s.vm.findClass RX2 = some m.cls := findClass_of_methodNamed B.named
  have hlocks := B.notSynchronized
  have hin2 : ∀ w ∈ u_ws RX2 TX2 3, w ∈ wsX2_valueOn := tu 1322 (by decide +kernel) rfl
  have hX := WX.of hPX
  have hl := lv_entry ([.ref (ad (3 * i)), .int (nI k)]) (n := 2) (Nat.le_of_ble_eq_true rfl)
  rw [lg_entry_eq]
  generalize (lg_sl ([.ref (ad (3 * i)), .int (nI k)]) ++ List.replicate (2 - (lg_sl ([.ref (ad (3 * i)), .int (nI k)])).length) Slot.unset).toArray = ls at hl ⊢
  have hl : lv_has ls 2 [(0, .ref (ad (3 * i))), (1, .int (nI k))] := hl
  show W p l e ({ frames := 0, cells := 0, slots := 0, locals := 0 } : Room) s m ([.ref (ad (3 * i)), .int (nI k)]).toArray below meth c s.heap [] 0 0 (MQ below (vp_Si (fun r => r = nI ((S.1 i).1 k))) ([.ref (ad (3 * i)), .int (nI k)]).toArray s 0 0 (fun _ => False)) (F0 m 0 ls [])
  refine lv_iload_n hx hb dX2_valueOn_0 rfl (lv_at hl 1 rfl) ?_
  refine kn_if_lt (tgt := 22) hx hb (by omega) dX2_valueOn_1 (by decide) ?_
  refine lv_iload_n hx hb dX2_valueOn_4 rfl (lv_at hl 1 rfl) ?_
  refine lv_aload_n hx hb dX2_valueOn_5 rfl (lv_at hl 0 rfl) ?_
  refine kr_gv hx hb hts hin2 hown hX hi (hts (.fieldLink RX2 11 "Orderlattice$Row" "values" "[I") (tm 25 (by decide +kernel) rfl)) dX2_valueOn_6 ?_
  refine kr_nv hx hb hX hi dX2_valueOn_9 ?_
  refine kn_icmp_ge (tgt := 22) hx hb (by omega) (by omega) dX2_valueOn_10 (by decide) (fun c2 => absurd c2 (by omega)) (fun c2 => ?_)
  refine lv_aload_n hx hb dX2_valueOn_13 rfl (lv_at hl 0 rfl) ?_
  refine kr_gv hx hb hts hin2 hown hX hi (hts (.fieldLink RX2 11 "Orderlattice$Row" "values" "[I") (tm 25 (by decide +kernel) rfl)) dX2_valueOn_14 ?_
  refine lv_iload_n hx hb dX2_valueOn_17 rfl (lv_at hl 1 rfl) ?_
  refine kr_lv (v := ((S.1 i).1) k) hx hb hX hi (by omega) rfl dX2_valueOn_18 ?_
  refine lv_goto (tgt := 23) hx hb dX2_valueOn_19 (by decide) ?_
  exact W.iret (v := nI (((S.1 i).1) k)) hx hb hr (fun t9 ht9 hW9 => ⟨_, rfl, rfl, ht9⟩) (fun _ h => nomatch h) dX2_valueOn_23
set_option maxHeartbeats 4000000 in
set_option maxRecDepth 100000 in
theorem m_X2_markOn (l : Launch) (dC : Nat → ClassId) (dI : Nat → Nat → Nat) (ad : Nat → Nat) (S : XS) (i k : Nat) (hi : i < 8) (hk : k < 16) : Met l yX2_markOn wsX2_markOn ({ frames := 0, cells := 0, slots := 0, locals := 0 } : Room) (va_Pc [.ref (ad (3 * i)), .int (nI k)] (PX dC dI ad S)) (vp_Si (fun r => r = nI ((S.1 i).2.1 k))) 0 0 (fun _ => False) := by
  refine Met.ofW (cc := cX2_markOn) (maxL := 2) (ret := (some .int)) pl_X2 rfl ?_
  intro p e s m args below meth c s₁ B hml hv
  obtain ⟨rfl, hPX⟩ := hv
  have hx := B.exec
  have hb := B.bytes
  have hr := B.returns
  have hts := atoms_spec (ws := wsX2_markOn) B.pre
  have hown : s.vm.findClass RX2 = some m.cls := findClass_of_methodNamed B.named
  have hlocks := B.notSynchronized
  have hin2 : ∀ w ∈ u_ws RX2 TX2 3, w ∈ wsX2_markOn := tu 1322 (by decide +kernel) rfl
  have hX := WX.of hPX
  have hl := lv_entry ([.ref (ad (3 * i)), .int (nI k)]) (n := 2) (Nat.le_of_ble_eq_true rfl)
  rw [lg_entry_eq]
  generalize (lg_sl ([.ref (ad (3 * i)), .int (nI k)]) ++ List.replicate (2 - (lg_sl ([.ref (ad (3 * i)), .int (nI k)])).length) Slot.unset).toArray = ls at hl ⊢
  have hl : lv_has ls 2 [(0, .ref (ad (3 * i))), (1, .int (nI k))] := hl
  show W p l e ({ frames := 0, cells := 0, slots := 0, locals := 0 } : Room) s m ([.ref (ad (3 * i)), .int (nI k)]).toArray below meth c s.heap [] 0 0 (MQ below (vp_Si (fun r => r = nI ((S.1 i).2.1 k))) ([.ref (ad (3 * i)), .int (nI k)]).toArray s 0 0 (fun _ => False)) (F0 m 0 ls [])
  refine lv_iload_n hx hb dX2_markOn_0 rfl (lv_at hl 1 rfl) ?_
  refine kn_if_lt (tgt := 22) hx hb (by omega) dX2_markOn_1 (by decide) ?_
  refine lv_iload_n hx hb dX2_markOn_4 rfl (lv_at hl 1 rfl) ?_
  refine lv_aload_n hx hb dX2_markOn_5 rfl (lv_at hl 0 rfl) ?_
  refine kr_gm hx hb hts hin2 hown hX hi (hts (.fieldLink RX2 15 "Orderlattice$Row" "marks" "[I") (tm 26 (by decide +kernel) rfl)) dX2_markOn_6 ?_
  refine kr_nm hx hb hX hi dX2_markOn_9 ?_
  refine kn_icmp_ge (tgt := 22) hx hb (by omega) (by omega) dX2_markOn_10 (by decide) (fun c2 => absurd c2 (by omega)) (fun c2 => ?_)
  refine lv_aload_n hx hb dX2_markOn_13 rfl (lv_at hl 0 rfl) ?_
  refine kr_gm hx hb hts hin2 hown hX hi (hts (.fieldLink RX2 15 "Orderlattice$Row" "marks" "[I") (tm 26 (by decide +kernel) rfl)) dX2_markOn_14 ?_
  refine lv_iload_n hx hb dX2_markOn_17 rfl (lv_at hl 1 rfl) ?_
  refine kr_lm (v := ((S.1 i).2.1) k) hx hb hX hi (by omega) rfl dX2_markOn_18 ?_
  refine lv_goto (tgt := 23) hx hb dX2_markOn_19 (by decide) ?_
  exact W.iret (v := nI (((S.1 i).2.1) k)) hx hb hr (fun t9 ht9 hW9 => ⟨_, rfl, rfl, ht9⟩) (fun _ h => nomatch h) dX2_markOn_23
set_option maxHeartbeats 4000000 in
set_option maxRecDepth 100000 in
theorem m_X2_replace (l : Launch) (dC : Nat → ClassId) (dI : Nat → Nat → Nat) (ad : Nat → Nat) (S : XS) (i k v u : Nat) (hi : i < 8) (hk : k < 16) : Met l yX2_replace wsX2_replace ({ frames := 0, cells := 0, slots := 0, locals := 0 } : Room) (va_Pc [.ref (ad (3 * i)), .int (nI k), .int (nI v), .int (nI u)] (PX dC dI ad S)) (va_Qv (fun S' => S' = xR S i (va_up (S.1 i).1 k v, va_up (S.1 i).2.1 k u, (S.1 i).2.2)) (PX dC dI ad) (AX ad)) 0 0 (AX ad) := by
  refine Met.ofW (cc := cX2_replace) (maxL := 4) (ret := none) pl_X2 rfl ?_
  intro p e s m args below meth c s₁ B hml hv
  obtain ⟨rfl, hPX⟩ := hv
  have hx := B.exec
  have hb := B.bytes
  have hr := B.returns
  have hts := atoms_spec (ws := wsX2_replace) B.pre
  have hown : s.vm.findClass RX2 = some m.cls := findClass_of_methodNamed B.named
  have hlocks := B.notSynchronized
  have hin2 : ∀ w ∈ u_ws RX2 TX2 3, w ∈ wsX2_replace := tu 1322 (by decide +kernel) rfl
  have hX := WX.of hPX
  have hl := lv_entry ([.ref (ad (3 * i)), .int (nI k), .int (nI v), .int (nI u)]) (n := 4) (Nat.le_of_ble_eq_true rfl)
  rw [lg_entry_eq]
  generalize (lg_sl ([.ref (ad (3 * i)), .int (nI k), .int (nI v), .int (nI u)]) ++ List.replicate (4 - (lg_sl ([.ref (ad (3 * i)), .int (nI k), .int (nI v), .int (nI u)])).length) Slot.unset).toArray = ls at hl ⊢
  have hl : lv_has ls 4 [(0, .ref (ad (3 * i))), (1, .int (nI k)), (2, .int (nI v)), (3, .int (nI u))] := hl
  show W p l e ({ frames := 0, cells := 0, slots := 0, locals := 0 } : Room) s m ([.ref (ad (3 * i)), .int (nI k), .int (nI v), .int (nI u)]).toArray below meth c s.heap [] 0 0 (MQ below (va_Qv (fun S' => S' = xR S i (va_up (S.1 i).1 k v, va_up (S.1 i).2.1 k u, (S.1 i).2.2)) (PX dC dI ad) (AX ad)) ([.ref (ad (3 * i)), .int (nI k), .int (nI v), .int (nI u)]).toArray s 0 0 (AX ad)) (F0 m 0 ls [])
  refine lv_iload_n hx hb dX2_replace_0 rfl (lv_at hl 1 rfl) ?_
  refine kn_if_lt (tgt := 36) hx hb (by omega) dX2_replace_1 (by decide) ?_
  refine lv_iload_n hx hb dX2_replace_4 rfl (lv_at hl 1 rfl) ?_
  refine lv_aload_n hx hb dX2_replace_5 rfl (lv_at hl 0 rfl) ?_
  refine kr_gv hx hb hts hin2 hown hX hi (hts (.fieldLink RX2 11 "Orderlattice$Row" "values" "[I") (tm 25 (by decide +kernel) rfl)) dX2_replace_6 ?_
  refine kr_nv hx hb hX hi dX2_replace_9 ?_
  refine kn_icmp_ge (tgt := 36) hx hb (by omega) (by omega) dX2_replace_10 (by decide) (fun c2 => absurd c2 (by omega)) (fun c2 => ?_)
  refine lv_iload_n hx hb dX2_replace_13 rfl (lv_at hl 1 rfl) ?_
  refine lv_aload_n hx hb dX2_replace_14 rfl (lv_at hl 0 rfl) ?_
  refine kr_gm hx hb hts hin2 hown hX hi (hts (.fieldLink RX2 15 "Orderlattice$Row" "marks" "[I") (tm 26 (by decide +kernel) rfl)) dX2_replace_15 ?_
  refine kr_nm hx hb hX hi dX2_replace_18 ?_
  refine kn_icmp_ge (tgt := 36) hx hb (by omega) (by omega) dX2_replace_19 (by decide) (fun c3 => absurd c3 (by omega)) (fun c3 => ?_)
  refine lv_aload_n hx hb dX2_replace_22 rfl (lv_at hl 0 rfl) ?_
  refine kr_gv hx hb hts hin2 hown hX hi (hts (.fieldLink RX2 11 "Orderlattice$Row" "values" "[I") (tm 25 (by decide +kernel) rfl)) dX2_replace_23 ?_
  refine lv_iload_n hx hb dX2_replace_26 rfl (lv_at hl 1 rfl) ?_
  refine lv_iload_n hx hb dX2_replace_27 rfl (lv_at hl 2 rfl) ?_
  refine kr_sv (S' := (xR S i (va_up ((S.1 i).1) k v, (S.1 i).2.1, (S.1 i).2.2))) hx hb hX hi (by omega) rfl dX2_replace_28 (fun H locs hX => ?_)
  refine lv_aload_n hx hb dX2_replace_29 rfl (lv_at hl 0 rfl) ?_
  refine kr_gm hx hb hts hin2 hown hX hi (hts (.fieldLink RX2 15 "Orderlattice$Row" "marks" "[I") (tm 26 (by decide +kernel) rfl)) dX2_replace_30 ?_
  refine lv_iload_n hx hb dX2_replace_33 rfl (lv_at hl 1 rfl) ?_
  refine lv_iload_n hx hb dX2_replace_34 rfl (lv_at hl 3 rfl) ?_
  refine kr_sm (S' := (xR S i (va_up ((S.1 i).1) k v, va_up ((S.1 i).2.1) k u, (S.1 i).2.2))) hx hb hX hi (by omega) (by rw [xR_row, xR_xR]) dX2_replace_35 (fun H locs hX => ?_)
  exact W.vret hx hb hr (fun t9 ht9 hW9 => ⟨⟨(xR S i (va_up ((S.1 i).1) k v, va_up ((S.1 i).2.1) k u, (S.1 i).2.2)), rfl, rfl, hX.P ht9 hW9⟩, hX.2.2.2.F ht9⟩) hX.2.2.2.2.2 dX2_replace_36
set_option maxHeartbeats 4000000 in
set_option maxRecDepth 100000 in
theorem m_X2_append (l : Launch) (dC : Nat → ClassId) (dI : Nat → Nat → Nat) (ad : Nat → Nat) (S : XS) (i v u : Nat) (hi : i < 8) (hn : (S.1 i).2.2 < 16) : Met l yX2_append wsX2_append ({ frames := 0, cells := 0, slots := 0, locals := 0 } : Room) (va_Pc [.ref (ad (3 * i)), .int (nI v), .int (nI u)] (PX dC dI ad S)) (va_Qv (fun S' => S' = xR S i (va_up (S.1 i).1 (S.1 i).2.2 v, va_up (S.1 i).2.1 (S.1 i).2.2 u, (S.1 i).2.2 + 1)) (PX dC dI ad) (AX ad)) 0 0 (AX ad) := by
  refine Met.ofW (cc := cX2_append) (maxL := 3) (ret := none) pl_X2 rfl ?_
  intro p e s m args below meth c s₁ B hml hv
  obtain ⟨rfl, hPX⟩ := hv
  have hx := B.exec
  have hb := B.bytes
  have hr := B.returns
  have hts := atoms_spec (ws := wsX2_append) B.pre
  have hown : s.vm.findClass RX2 = some m.cls := findClass_of_methodNamed B.named
  have hlocks := B.notSynchronized
  have hin2 : ∀ w ∈ u_ws RX2 TX2 3, w ∈ wsX2_append := tu 1322 (by decide +kernel) rfl
  have hX := WX.of hPX
  have hl := lv_entry ([.ref (ad (3 * i)), .int (nI v), .int (nI u)]) (n := 3) (Nat.le_of_ble_eq_true rfl)
  rw [lg_entry_eq]
  generalize (lg_sl ([.ref (ad (3 * i)), .int (nI v), .int (nI u)]) ++ List.replicate (3 - (lg_sl ([.ref (ad (3 * i)), .int (nI v), .int (nI u)])).length) Slot.unset).toArray = ls at hl ⊢
  have hl : lv_has ls 3 [(0, .ref (ad (3 * i))), (1, .int (nI v)), (2, .int (nI u))] := hl
  show W p l e ({ frames := 0, cells := 0, slots := 0, locals := 0 } : Room) s m ([.ref (ad (3 * i)), .int (nI v), .int (nI u)]).toArray below meth c s.heap [] 0 0 (MQ below (va_Qv (fun S' => S' = xR S i (va_up (S.1 i).1 (S.1 i).2.2 v, va_up (S.1 i).2.1 (S.1 i).2.2 u, (S.1 i).2.2 + 1)) (PX dC dI ad) (AX ad)) ([.ref (ad (3 * i)), .int (nI v), .int (nI u)]).toArray s 0 0 (AX ad)) (F0 m 0 ls [])
  refine lv_aload_n hx hb dX2_append_0 rfl (lv_at hl 0 rfl) ?_
  refine kr_gn (n := (S.1 i).2.2) hx hb hts hin2 hown hX hi rfl (hts (.fieldLink RX2 18 "Orderlattice$Row" "many" "I") (tm 27 (by decide +kernel) rfl)) dX2_append_1 ?_
  refine kn_if_lt (tgt := 61) hx hb (by omega) dX2_append_4 (by decide) ?_
  refine lv_aload_n hx hb dX2_append_7 rfl (lv_at hl 0 rfl) ?_
  refine kr_gn (n := (S.1 i).2.2) hx hb hts hin2 hown hX hi rfl (hts (.fieldLink RX2 18 "Orderlattice$Row" "many" "I") (tm 27 (by decide +kernel) rfl)) dX2_append_8 ?_
  refine lv_aload_n hx hb dX2_append_11 rfl (lv_at hl 0 rfl) ?_
  refine kr_gv hx hb hts hin2 hown hX hi (hts (.fieldLink RX2 11 "Orderlattice$Row" "values" "[I") (tm 25 (by decide +kernel) rfl)) dX2_append_12 ?_
  refine kr_nv hx hb hX hi dX2_append_15 ?_
  refine kn_icmp_ge (tgt := 61) hx hb (by omega) (by omega) dX2_append_16 (by decide) (fun c2 => absurd c2 (by omega)) (fun c2 => ?_)
  refine lv_aload_n hx hb dX2_append_19 rfl (lv_at hl 0 rfl) ?_
  refine kr_gn (n := (S.1 i).2.2) hx hb hts hin2 hown hX hi rfl (hts (.fieldLink RX2 18 "Orderlattice$Row" "many" "I") (tm 27 (by decide +kernel) rfl)) dX2_append_20 ?_
  refine lv_aload_n hx hb dX2_append_23 rfl (lv_at hl 0 rfl) ?_
  refine kr_gm hx hb hts hin2 hown hX hi (hts (.fieldLink RX2 15 "Orderlattice$Row" "marks" "[I") (tm 26 (by decide +kernel) rfl)) dX2_append_24 ?_
  refine kr_nm hx hb hX hi dX2_append_27 ?_
  refine kn_icmp_ge (tgt := 61) hx hb (by omega) (by omega) dX2_append_28 (by decide) (fun c3 => absurd c3 (by omega)) (fun c3 => ?_)
  refine lv_aload_n hx hb dX2_append_31 rfl (lv_at hl 0 rfl) ?_
  refine kr_gv hx hb hts hin2 hown hX hi (hts (.fieldLink RX2 11 "Orderlattice$Row" "values" "[I") (tm 25 (by decide +kernel) rfl)) dX2_append_32 ?_
  refine lv_aload_n hx hb dX2_append_35 rfl (lv_at hl 0 rfl) ?_
  refine kr_gn (n := (S.1 i).2.2) hx hb hts hin2 hown hX hi rfl (hts (.fieldLink RX2 18 "Orderlattice$Row" "many" "I") (tm 27 (by decide +kernel) rfl)) dX2_append_36 ?_
  refine lv_iload_n hx hb dX2_append_39 rfl (lv_at hl 1 rfl) ?_
  refine kr_sv (S' := (xR S i (va_up ((S.1 i).1) ((S.1 i).2.2) v, (S.1 i).2.1, (S.1 i).2.2))) hx hb hX hi (by omega) rfl dX2_append_40 (fun H locs hX => ?_)
  refine lv_aload_n hx hb dX2_append_41 rfl (lv_at hl 0 rfl) ?_
  refine kr_gm hx hb hts hin2 hown hX hi (hts (.fieldLink RX2 15 "Orderlattice$Row" "marks" "[I") (tm 26 (by decide +kernel) rfl)) dX2_append_42 ?_
  refine lv_aload_n hx hb dX2_append_45 rfl (lv_at hl 0 rfl) ?_
  refine kr_gn (n := (S.1 i).2.2) hx hb hts hin2 hown hX hi (by rw [xR_row]) (hts (.fieldLink RX2 18 "Orderlattice$Row" "many" "I") (tm 27 (by decide +kernel) rfl)) dX2_append_46 ?_
  refine lv_iload_n hx hb dX2_append_49 rfl (lv_at hl 2 rfl) ?_
  refine kr_sm (S' := (xR S i (va_up ((S.1 i).1) ((S.1 i).2.2) v, va_up ((S.1 i).2.1) ((S.1 i).2.2) u, (S.1 i).2.2))) hx hb hX hi (by omega) (by rw [xR_row, xR_xR]) dX2_append_50 (fun H locs hX => ?_)
  refine lv_aload_n hx hb dX2_append_51 rfl (lv_at hl 0 rfl) ?_
  refine lv_dup hx hb dX2_append_52 rfl ?_
  refine kr_gn (n := (S.1 i).2.2) hx hb hts hin2 hown hX hi (by rw [xR_row]) (hts (.fieldLink RX2 18 "Orderlattice$Row" "many" "I") (tm 27 (by decide +kernel) rfl)) dX2_append_53 ?_
  refine lv_iconst (v := nI 1) hx hb dX2_append_56 (by decide) ?_
  refine kn_iadd hx hb dX2_append_57 ?_
  refine kr_pn (S' := (xR S i (va_up ((S.1 i).1) ((S.1 i).2.2) v, va_up ((S.1 i).2.1) ((S.1 i).2.2) u, (S.1 i).2.2 + 1))) hx hb hts hin2 hown hX hi (by rw [xR_row, xR_xR]) (hts (.fieldLink RX2 18 "Orderlattice$Row" "many" "I") (tm 27 (by decide +kernel) rfl)) dX2_append_58 (fun H locs hX => ?_)
  exact W.vret hx hb hr (fun t9 ht9 hW9 => ⟨⟨(xR S i (va_up ((S.1 i).1) ((S.1 i).2.2) v, va_up ((S.1 i).2.1) ((S.1 i).2.2) u, (S.1 i).2.2 + 1)), rfl, rfl, hX.P ht9 hW9⟩, hX.2.2.2.F ht9⟩) hX.2.2.2.2.2 dX2_append_61
set_option maxHeartbeats 4000000 in
set_option maxRecDepth 100000 in
theorem m_X2_empty (l : Launch) (dC : Nat → ClassId) (dI : Nat → Nat → Nat) (ad : Nat → Nat) (S : XS) (i : Nat) (hi : i < 8) : Met l yX2_empty wsX2_empty ({ frames := 0, cells := 0, slots := 0, locals := 0 } : Room) (va_Pc [.ref (ad (3 * i))] (PX dC dI ad S)) (va_Qv (fun S' => S' = xR S i ((S.1 i).1, (S.1 i).2.1, 0)) (PX dC dI ad) (AX ad)) 0 0 (AX ad) := by
  refine Met.ofW (cc := cX2_empty) (maxL := 1) (ret := none) pl_X2 rfl ?_
  intro p e s m args below meth c s₁ B hml hv
  obtain ⟨rfl, hPX⟩ := hv
  have hx := B.exec
  have hb := B.bytes
  have hr := B.returns
  have hts := atoms_spec (ws := wsX2_empty) B.pre
  have hown : s.vm.findClass RX2 = some m.cls := findClass_of_methodNamed B.named
  have hlocks := B.notSynchronized
  have hin2 : ∀ w ∈ u_ws RX2 TX2 3, w ∈ wsX2_empty := tu 1322 (by decide +kernel) rfl
  have hX := WX.of hPX
  have hl := lv_entry ([.ref (ad (3 * i))]) (n := 1) (Nat.le_of_ble_eq_true rfl)
  rw [lg_entry_eq]
  generalize (lg_sl ([.ref (ad (3 * i))]) ++ List.replicate (1 - (lg_sl ([.ref (ad (3 * i))])).length) Slot.unset).toArray = ls at hl ⊢
  have hl : lv_has ls 1 [(0, .ref (ad (3 * i)))] := hl
  show W p l e ({ frames := 0, cells := 0, slots := 0, locals := 0 } : Room) s m ([.ref (ad (3 * i))]).toArray below meth c s.heap [] 0 0 (MQ below (va_Qv (fun S' => S' = xR S i ((S.1 i).1, (S.1 i).2.1, 0)) (PX dC dI ad) (AX ad)) ([.ref (ad (3 * i))]).toArray s 0 0 (AX ad)) (F0 m 0 ls [])
  refine lv_aload_n hx hb dX2_empty_0 rfl (lv_at hl 0 rfl) ?_
  refine lv_iconst (v := nI 0) hx hb dX2_empty_1 (by decide) ?_
  refine kr_pn (S' := (xR S i ((S.1 i).1, (S.1 i).2.1, 0))) hx hb hts hin2 hown hX hi rfl (hts (.fieldLink RX2 18 "Orderlattice$Row" "many" "I") (tm 27 (by decide +kernel) rfl)) dX2_empty_2 (fun H locs hX => ?_)
  exact W.vret hx hb hr (fun t9 ht9 hW9 => ⟨⟨(xR S i ((S.1 i).1, (S.1 i).2.1, 0)), rfl, rfl, hX.P ht9 hW9⟩, hX.2.2.2.F ht9⟩) hX.2.2.2.2.2 dX2_empty_5
set_option maxHeartbeats 4000000 in
set_option maxRecDepth 100000 in
theorem m_X2_exchange (l : Launch) (dC : Nat → ClassId) (dI : Nat → Nat → Nat) (ad : Nat → Nat) (S : XS) (i a b : Nat) (hi : i < 8) (ha : a < 16) (hb9 : b < 16) : Met l yX2_exchange wsX2_exchange ({ frames := 1, cells := 0, slots := 0, locals := 23 } : Room) (va_Pc [.ref (ad (3 * i)), .int (nI a), .int (nI b)] (PX dC dI ad S)) (va_Qv (fun S' => S' = xR S i (xch (S.1 i).1 a b, xch (S.1 i).2.1 a b, (S.1 i).2.2)) (PX dC dI ad) (AX ad)) 0 0 (AX ad) := by
  refine Met.ofW (cc := cX2_exchange) (maxL := 5) (ret := none) pl_X2 rfl ?_
  intro p e s m args below meth c s₁ B hml hv
  obtain ⟨rfl, hPX⟩ := hv
  have hx := B.exec
  have hb := B.bytes
  have hr := B.returns
  have hts := atoms_spec (ws := wsX2_exchange) B.pre
  have hown : s.vm.findClass RX2 = some m.cls := findClass_of_methodNamed B.named
  have hlocks := B.notSynchronized
  have hX := WX.of hPX
  have hl := lv_entry ([.ref (ad (3 * i)), .int (nI a), .int (nI b)]) (n := 5) (Nat.le_of_ble_eq_true rfl)
  rw [lg_entry_eq]
  generalize (lg_sl ([.ref (ad (3 * i)), .int (nI a), .int (nI b)]) ++ List.replicate (5 - (lg_sl ([.ref (ad (3 * i)), .int (nI a), .int (nI b)])).length) Slot.unset).toArray = ls at hl ⊢
  have hl : lv_has ls 5 [(0, .ref (ad (3 * i))), (1, .int (nI a)), (2, .int (nI b))] := hl
  show W p l e ({ frames := 1, cells := 0, slots := 0, locals := 23 } : Room) s m ([.ref (ad (3 * i)), .int (nI a), .int (nI b)]).toArray below meth c s.heap [] 0 0 (MQ below (va_Qv (fun S' => S' = xR S i (xch (S.1 i).1 a b, xch (S.1 i).2.1 a b, (S.1 i).2.2)) (PX dC dI ad) (AX ad)) ([.ref (ad (3 * i)), .int (nI a), .int (nI b)]).toArray s 0 0 (AX ad)) (F0 m 0 ls [])
  refine lv_aload_n hx hb dX2_exchange_0 rfl (lv_at hl 0 rfl) ?_
  refine lv_iload_n hx hb dX2_exchange_1 rfl (lv_at hl 1 rfl) ?_
  refine kx_cr (v := nI (((S.1 i).1) a)) (va_runV (As := [.int (nI a)]) (rest := []) ⟨hx, hb, hml, hown, hts⟩ (m_X2_valueOn l dC dI ad S i a hi (by omega)) (cwV 1 hts gX2_exchange_X2_valueOn rfl rfl rfl hdX2_valueOn_1 ⟨Nat.le_of_ble_eq_true rfl, Nat.le_of_ble_eq_true rfl⟩) (hX.preRow hi) rfl rfl hl.1 rfl (lv_room (Nat.le_of_ble_eq_true rfl)) dX2_exchange_2 ⟨Nat.le_of_ble_eq_true rfl, Nat.le_of_ble_eq_true rfl⟩) (fun _ h => h) ?_
  refine lv_istore_n (lv' := [(3, .int (nI (((S.1 i).1) a))), (0, .ref (ad (3 * i))), (1, .int (nI a)), (2, .int (nI b))]) hx hb dX2_exchange_5 rfl hl (by decide) rfl (fun ls hl => ?_)
  refine lv_aload_n hx hb dX2_exchange_6 rfl (lv_at hl 1 rfl) ?_
  refine lv_iload_n hx hb dX2_exchange_7 rfl (lv_at hl 2 rfl) ?_
  refine kx_cr (v := nI (((S.1 i).2.1) a)) (va_runV (As := [.int (nI a)]) (rest := []) ⟨hx, hb, hml, hown, hts⟩ (m_X2_markOn l dC dI ad S i a hi (by omega)) (cwV 1 hts gX2_exchange_X2_markOn rfl rfl rfl hdX2_markOn_1 ⟨Nat.le_of_ble_eq_true rfl, Nat.le_of_ble_eq_true rfl⟩) (hX.preRow hi) rfl rfl hl.1 rfl (lv_room (Nat.le_of_ble_eq_true rfl)) dX2_exchange_8 ⟨Nat.le_of_ble_eq_true rfl, Nat.le_of_ble_eq_true rfl⟩) (fun _ h => h) ?_
  refine lv_istore (lv' := [(4, .int (nI (((S.1 i).2.1) a))), (3, .int (nI (((S.1 i).1) a))), (0, .ref (ad (3 * i))), (1, .int (nI a)), (2, .int (nI b))]) hx hb dX2_exchange_11 hl (by decide) rfl (fun ls hl => ?_)
  refine lv_aload_n hx hb dX2_exchange_13 rfl (lv_at hl 2 rfl) ?_
  refine lv_iload_n hx hb dX2_exchange_14 rfl (lv_at hl 3 rfl) ?_
  refine lv_aload_n hx hb dX2_exchange_15 rfl (lv_at hl 2 rfl) ?_
  refine lv_iload_n hx hb dX2_exchange_16 rfl (lv_at hl 4 rfl) ?_
  refine kx_cr (v := nI (((S.1 i).1) b)) (va_runV (As := [.int (nI b)]) (rest := [.int (nI a), .ref (ad (3 * i))]) ⟨hx, hb, hml, hown, hts⟩ (m_X2_valueOn l dC dI ad S i b hi (by omega)) (cwV 1 hts gX2_exchange_X2_valueOn rfl rfl rfl hdX2_valueOn_1 ⟨Nat.le_of_ble_eq_true rfl, Nat.le_of_ble_eq_true rfl⟩) (hX.preRow hi) rfl rfl hl.1 rfl (lv_room (Nat.le_of_ble_eq_true rfl)) dX2_exchange_17 ⟨Nat.le_of_ble_eq_true rfl, Nat.le_of_ble_eq_true rfl⟩) (fun _ h => h) ?_
  refine lv_aload_n hx hb dX2_exchange_20 rfl (lv_at hl 2 rfl) ?_
  refine lv_iload_n hx hb dX2_exchange_21 rfl (lv_at hl 4 rfl) ?_
  refine kx_cr (v := nI (((S.1 i).2.1) b)) (va_runV (As := [.int (nI b)]) (rest := [.int (nI (((S.1 i).1) b)), .int (nI a), .ref (ad (3 * i))]) ⟨hx, hb, hml, hown, hts⟩ (m_X2_markOn l dC dI ad S i b hi (by omega)) (cwV 1 hts gX2_exchange_X2_markOn rfl rfl rfl hdX2_markOn_1 ⟨Nat.le_of_ble_eq_true rfl, Nat.le_of_ble_eq_true rfl⟩) (hX.preRow hi) rfl rfl hl.1 rfl (lv_room (Nat.le_of_ble_eq_true rfl)) dX2_exchange_22 ⟨Nat.le_of_ble_eq_true rfl, Nat.le_of_ble_eq_true rfl⟩) (fun _ h => h) ?_
  refine kx_cv (va_runV (As := [.int (nI a), .int (nI (((S.1 i).1) b)), .int (nI (((S.1 i).2.1) b))]) (rest := []) ⟨hx, hb, hml, hown, hts⟩ (m_X2_replace l dC dI ad S i a (((S.1 i).1) b) (((S.1 i).2.1) b) hi (by omega)) (cwV 3 hts gX2_exchange_X2_replace rfl rfl rfl hdX2_replace_3 ⟨Nat.le_of_ble_eq_true rfl, Nat.le_of_ble_eq_true rfl⟩) (hX.preRow hi) rfl rfl hl.1 rfl (lv_room (Nat.le_of_ble_eq_true rfl)) dX2_exchange_25 ⟨Nat.le_of_ble_eq_true rfl, Nat.le_of_ble_eq_true rfl⟩) hX (fun _ h => h) (fun S_ H locs hw hX => ?_)
  subst hw
  refine lv_aload_n hx hb dX2_exchange_28 rfl (lv_at hl 2 rfl) ?_
  refine lv_iload_n hx hb dX2_exchange_29 rfl (lv_at hl 4 rfl) ?_
  refine lv_iload_n hx hb dX2_exchange_30 rfl (lv_at hl 1 rfl) ?_
  refine lv_iload hx hb dX2_exchange_31 (lv_at hl 0 rfl) ?_
  refine kx_cv (va_runV (As := [.int (nI b), .int (nI (((S.1 i).1) a)), .int (nI (((S.1 i).2.1) a))]) (rest := []) ⟨hx, hb, hml, hown, hts⟩ (m_X2_replace l dC dI ad (xR S i (va_up ((S.1 i).1) a (((S.1 i).1) b), va_up ((S.1 i).2.1) a (((S.1 i).2.1) b), (S.1 i).2.2)) i b (((S.1 i).1) a) (((S.1 i).2.1) a) hi (by omega)) (cwV 3 hts gX2_exchange_X2_replace rfl rfl rfl hdX2_replace_3 ⟨Nat.le_of_ble_eq_true rfl, Nat.le_of_ble_eq_true rfl⟩) (hX.preRow hi) rfl rfl hl.1 rfl (lv_room (Nat.le_of_ble_eq_true rfl)) dX2_exchange_33 ⟨Nat.le_of_ble_eq_true rfl, Nat.le_of_ble_eq_true rfl⟩) hX (fun _ h => h) (fun S_ H locs hw hX => ?_)
  rw [xR_row, xR_xR] at hw
  subst hw
  exact W.vret hx hb hr (fun t9 ht9 hW9 => ⟨⟨(xR S i (va_up (va_up ((S.1 i).1) a (((S.1 i).1) b)) b (((S.1 i).1) a), va_up (va_up ((S.1 i).2.1) a (((S.1 i).2.1) b)) b (((S.1 i).2.1) a), (S.1 i).2.2)), rfl, rfl, hX.P ht9 hW9⟩, hX.2.2.2.F ht9⟩) hX.2.2.2.2.2 dX2_exchange_36
set_option maxHeartbeats 4000000 in
set_option maxRecDepth 100000 in
theorem m_X2_insert (l : Launch) (dC : Nat → ClassId) (dI : Nat → Nat → Nat) (ad : Nat → Nat) (S : XS) (i q v u : Nat) (hi : i < 8) (hn : (S.1 i).2.2 < 16) (hq : q ≤ (S.1 i).2.2) : Met l yX2_insert wsX2_insert ({ frames := 1, cells := 0, slots := 0, locals := 23 } : Room) (va_Pc [.ref (ad (3 * i)), .int (nI q), .int (nI v), .int (nI u)] (PX dC dI ad S)) (va_Qv (fun S' => S' = xR S i (va_up (shr (S.1 i).1 (S.1 i).2.2 q) q v, va_up (shr (S.1 i).2.1 (S.1 i).2.2 q) q u, (S.1 i).2.2 + 1)) (PX dC dI ad) (AX ad)) 0 0 (AX ad) := by
  refine Met.ofW (cc := cX2_insert) (maxL := 5) (ret := none) pl_X2 rfl ?_
  intro p e s m args below meth c s₁ B hml hv
  obtain ⟨rfl, hPX⟩ := hv
  have hx := B.exec
  have hb := B.bytes
  have hr := B.returns
  have hts := atoms_spec (ws := wsX2_insert) B.pre
  have hown : s.vm.findClass RX2 = some m.cls := findClass_of_methodNamed B.named
  have hlocks := B.notSynchronized
  have hin2 : ∀ w ∈ u_ws RX2 TX2 3, w ∈ wsX2_insert := tu 1322 (by decide +kernel) rfl
  have hX := WX.of hPX
  have hl := lv_entry ([.ref (ad (3 * i)), .int (nI q), .int (nI v), .int (nI u)]) (n := 5) (Nat.le_of_ble_eq_true rfl)
  rw [lg_entry_eq]
  generalize (lg_sl ([.ref (ad (3 * i)), .int (nI q), .int (nI v), .int (nI u)]) ++ List.replicate (5 - (lg_sl ([.ref (ad (3 * i)), .int (nI q), .int (nI v), .int (nI u)])).length) Slot.unset).toArray = ls at hl ⊢
  have hl : lv_has ls 5 [(0, .ref (ad (3 * i))), (1, .int (nI q)), (2, .int (nI v)), (3, .int (nI u))] := hl
  show W p l e ({ frames := 1, cells := 0, slots := 0, locals := 23 } : Room) s m ([.ref (ad (3 * i)), .int (nI q), .int (nI v), .int (nI u)]).toArray below meth c s.heap [] 0 0 (MQ below (va_Qv (fun S' => S' = xR S i (va_up (shr (S.1 i).1 (S.1 i).2.2 q) q v, va_up (shr (S.1 i).2.1 (S.1 i).2.2 q) q u, (S.1 i).2.2 + 1)) (PX dC dI ad) (AX ad)) ([.ref (ad (3 * i)), .int (nI q), .int (nI v), .int (nI u)]).toArray s 0 0 (AX ad)) (F0 m 0 ls [])
  refine lv_aload_n hx hb dX2_insert_0 rfl (lv_at hl 0 rfl) ?_
  refine kr_gn (n := (S.1 i).2.2) hx hb hts hin2 hown hX hi rfl (hts (.fieldLink RX2 18 "Orderlattice$Row" "many" "I") (tm 27 (by decide +kernel) rfl)) dX2_insert_1 ?_
  refine lv_bipush (v := nI 16) hx hb dX2_insert_4 (by decide) ?_
  refine kn_icmp_lt (tgt := 10) hx hb (by omega) (by omega) dX2_insert_6 (by decide) (fun c1 => ?_) (fun c1 => absurd c1 (by omega))
  refine lv_aload_n hx hb dX2_insert_10 rfl (lv_at hl 0 rfl) ?_
  refine kr_gn (n := (S.1 i).2.2) hx hb hts hin2 hown hX hi rfl (hts (.fieldLink RX2 18 "Orderlattice$Row" "many" "I") (tm 27 (by decide +kernel) rfl)) dX2_insert_11 ?_
  refine lv_istore (lv' := [(4, .int (nI ((S.1 i).2.2))), (0, .ref (ad (3 * i))), (1, .int (nI q)), (2, .int (nI v)), (3, .int (nI u))]) hx hb dX2_insert_14 hl (by decide) rfl (fun ls hl => ?_)
  have loop16 : ∀ (fuel : Nat) (a : Nat) (ha : q ≤ a ∧ a ≤ (S.1 i).2.2) (H : Heap) (locs : List Loc), a < fuel → WX dC dI ad (xR S i (shr (S.1 i).1 (S.1 i).2.2 a, shr (S.1 i).2.1 (S.1 i).2.2 a, (S.1 i).2.2)) (AX ad) s H locs → ∀ ls : Array Slot, lv_has ls 5 [(0, .ref (ad (3 * i))), (1, .int (nI q)), (2, .int (nI v)), (3, .int (nI u)), (4, .int (nI a))] → W p l e ({ frames := 1, cells := 0, slots := 0, locals := 23 } : Room) s m ([.ref (ad (3 * i)), .int (nI q), .int (nI v), .int (nI u)]).toArray below meth c H locs 0 0 (MQ below (va_Qv (fun S' => S' = xR S i (va_up (shr (S.1 i).1 (S.1 i).2.2 q) q v, va_up (shr (S.1 i).2.1 (S.1 i).2.2 q) q u, (S.1 i).2.2 + 1)) (PX dC dI ad) (AX ad)) ([.ref (ad (3 * i)), .int (nI q), .int (nI v), .int (nI u)]).toArray s 0 0 (AX ad)) (F0 m 16 ls []) := by
    intro fuel
    induction fuel with
    | zero => intro a ha H locs hf; exact absurd hf (Nat.not_lt_zero _)
    | succ fuel ih16 =>
      intro a ha H locs hf hX ls hl
      refine lv_iload hx hb dX2_insert_16 (lv_at hl 4 rfl) ?_
      refine lv_iload_n hx hb dX2_insert_18 rfl (lv_at hl 1 rfl) ?_
      refine kn_icmp_le (tgt := 50) hx hb (by omega) (by omega) dX2_insert_19 (by decide) (fun c2 => ?_) (fun c2 => ?_)
      · skip
        refine lv_aload_n hx hb dX2_insert_50 rfl (lv_at hl 0 rfl) ?_
        refine lv_iload_n hx hb dX2_insert_51 rfl (lv_at hl 1 rfl) ?_
        refine lv_iload_n hx hb dX2_insert_52 rfl (lv_at hl 2 rfl) ?_
        refine lv_iload_n hx hb dX2_insert_53 rfl (lv_at hl 3 rfl) ?_
        refine kx_cv (va_runV (As := [.int (nI q), .int (nI v), .int (nI u)]) (rest := []) ⟨hx, hb, hml, hown, hts⟩ (m_X2_replace l dC dI ad (xR S i (shr (S.1 i).1 (S.1 i).2.2 a, shr (S.1 i).2.1 (S.1 i).2.2 a, (S.1 i).2.2)) i q v u hi (by omega)) (cwV 3 hts gX2_insert_X2_replace rfl rfl rfl hdX2_replace_3 ⟨Nat.le_of_ble_eq_true rfl, Nat.le_of_ble_eq_true rfl⟩) (hX.preRow hi) rfl rfl hl.1 rfl (lv_room (Nat.le_of_ble_eq_true rfl)) dX2_insert_54 ⟨Nat.le_of_ble_eq_true rfl, Nat.le_of_ble_eq_true rfl⟩) hX (fun _ h => h) (fun S_ H locs hw hX => ?_)
        rw [xR_row, xR_xR] at hw
        subst hw
        refine lv_aload_n hx hb dX2_insert_57 rfl (lv_at hl 0 rfl) ?_
        refine lv_dup hx hb dX2_insert_58 rfl ?_
        refine kr_gn (n := (S.1 i).2.2) hx hb hts hin2 hown hX hi (by rw [xR_row]) (hts (.fieldLink RX2 18 "Orderlattice$Row" "many" "I") (tm 27 (by decide +kernel) rfl)) dX2_insert_59 ?_
        refine lv_iconst (v := nI 1) hx hb dX2_insert_62 (by decide) ?_
        refine kn_iadd hx hb dX2_insert_63 ?_
        refine kr_pn (S' := (xR S i (va_up (shr (S.1 i).1 (S.1 i).2.2 a) q v, va_up (shr (S.1 i).2.1 (S.1 i).2.2 a) q u, (S.1 i).2.2 + 1))) hx hb hts hin2 hown hX hi (by rw [xR_row, xR_xR]) (hts (.fieldLink RX2 18 "Orderlattice$Row" "many" "I") (tm 27 (by decide +kernel) rfl)) dX2_insert_64 (fun H locs hX => ?_)
        exact W.vret hx hb hr (fun t9 ht9 hW9 => ⟨⟨(xR S i (va_up (shr (S.1 i).1 (S.1 i).2.2 a) q v, va_up (shr (S.1 i).2.1 (S.1 i).2.2 a) q u, (S.1 i).2.2 + 1)), rfl, (by rw [show a = q by omega]), hX.P ht9 hW9⟩, hX.2.2.2.F ht9⟩) hX.2.2.2.2.2 dX2_insert_67
      · skip
        refine lv_aload_n hx hb dX2_insert_22 rfl (lv_at hl 0 rfl) ?_
        refine lv_iload hx hb dX2_insert_23 (lv_at hl 4 rfl) ?_
        refine lv_aload_n hx hb dX2_insert_25 rfl (lv_at hl 0 rfl) ?_
        refine lv_iload hx hb dX2_insert_26 (lv_at hl 4 rfl) ?_
        refine lv_iconst (v := nI 1) hx hb dX2_insert_28 (by decide) ?_
        refine kn_isub hx hb (by omega) dX2_insert_29 ?_
        refine kx_cr (v := nI ((S.1 i).1 (a - 1))) (va_runV (As := [.int (nI (a - 1))]) (rest := [.int (nI a), .ref (ad (3 * i))]) ⟨hx, hb, hml, hown, hts⟩ (m_X2_valueOn l dC dI ad (xR S i (shr (S.1 i).1 (S.1 i).2.2 a, shr (S.1 i).2.1 (S.1 i).2.2 a, (S.1 i).2.2)) i (a - 1) hi (by omega)) (cwV 1 hts gX2_insert_X2_valueOn rfl rfl rfl hdX2_valueOn_1 ⟨Nat.le_of_ble_eq_true rfl, Nat.le_of_ble_eq_true rfl⟩) (hX.preRow hi) rfl rfl hl.1 rfl (lv_room (Nat.le_of_ble_eq_true rfl)) dX2_insert_30 ⟨Nat.le_of_ble_eq_true rfl, Nat.le_of_ble_eq_true rfl⟩) (fun _ h => by rw [h, xR_row]; dsimp only; rw [shr_lo _ (by omega)]) ?_
        refine lv_aload_n hx hb dX2_insert_33 rfl (lv_at hl 0 rfl) ?_
        refine lv_iload hx hb dX2_insert_34 (lv_at hl 4 rfl) ?_
        refine lv_iconst (v := nI 1) hx hb dX2_insert_36 (by decide) ?_
        refine kn_isub hx hb (by omega) dX2_insert_37 ?_
        refine kx_cr (v := nI ((S.1 i).2.1 (a - 1))) (va_runV (As := [.int (nI (a - 1))]) (rest := [.int (nI ((S.1 i).1 (a - 1))), .int (nI a), .ref (ad (3 * i))]) ⟨hx, hb, hml, hown, hts⟩ (m_X2_markOn l dC dI ad (xR S i (shr (S.1 i).1 (S.1 i).2.2 a, shr (S.1 i).2.1 (S.1 i).2.2 a, (S.1 i).2.2)) i (a - 1) hi (by omega)) (cwV 1 hts gX2_insert_X2_markOn rfl rfl rfl hdX2_markOn_1 ⟨Nat.le_of_ble_eq_true rfl, Nat.le_of_ble_eq_true rfl⟩) (hX.preRow hi) rfl rfl hl.1 rfl (lv_room (Nat.le_of_ble_eq_true rfl)) dX2_insert_38 ⟨Nat.le_of_ble_eq_true rfl, Nat.le_of_ble_eq_true rfl⟩) (fun _ h => by rw [h, xR_row]; dsimp only; rw [shr_lo _ (by omega)]) ?_
        refine kx_cv (va_runV (As := [.int (nI a), .int (nI ((S.1 i).1 (a - 1))), .int (nI ((S.1 i).2.1 (a - 1)))]) (rest := []) ⟨hx, hb, hml, hown, hts⟩ (m_X2_replace l dC dI ad (xR S i (shr (S.1 i).1 (S.1 i).2.2 a, shr (S.1 i).2.1 (S.1 i).2.2 a, (S.1 i).2.2)) i a ((S.1 i).1 (a - 1)) ((S.1 i).2.1 (a - 1)) hi (by omega)) (cwV 3 hts gX2_insert_X2_replace rfl rfl rfl hdX2_replace_3 ⟨Nat.le_of_ble_eq_true rfl, Nat.le_of_ble_eq_true rfl⟩) (hX.preRow hi) rfl rfl hl.1 rfl (lv_room (Nat.le_of_ble_eq_true rfl)) dX2_insert_41 ⟨Nat.le_of_ble_eq_true rfl, Nat.le_of_ble_eq_true rfl⟩) hX (fun _ h => h) (fun S_ H locs hw hX => ?_)
        rw [xR_row, xR_xR] at hw
        dsimp only at hw
        rw [shr_up _ (by omega) (by omega), shr_up _ (by omega) (by omega)] at hw
        subst hw
        refine lv_iinc (v := nI (a - 1)) (lv' := [(4, .int (nI (a - 1))), (0, .ref (ad (3 * i))), (1, .int (nI q)), (2, .int (nI v)), (3, .int (nI u))]) hx hb dX2_insert_44 hl (k := 4) rfl (kn_dec (by omega)) (by decide) rfl (fun ls hl => ?_)
        refine lv_goto (tgt := 16) hx hb dX2_insert_47 (by decide) ?_
        exact ih16  (a - 1) (by omega) _ _ (by omega) hX _ (lv_sub hl [1, 2, 3, 4, 0] rfl)
  exact loop16 ((S.1 i).2.2 + 1) ((S.1 i).2.2) (by omega) _ _ (by omega) (WX.eqS (by rw [shr_n, shr_n]; exact (xR_self S i).symm) hX) _ (lv_sub hl [1, 2, 3, 4, 0] rfl)
set_option maxHeartbeats 4000000 in
set_option maxRecDepth 100000 in
theorem m_X2_remove (l : Launch) (dC : Nat → ClassId) (dI : Nat → Nat → Nat) (ad : Nat → Nat) (S : XS) (i q : Nat) (hi : i < 8) (hn : (S.1 i).2.2 ≤ 16) (hq : q < (S.1 i).2.2) : Met l yX2_remove wsX2_remove ({ frames := 1, cells := 0, slots := 0, locals := 23 } : Room) (va_Pc [.ref (ad (3 * i)), .int (nI q)] (PX dC dI ad S)) (va_Qv (fun S' => S' = xR S i (shl (S.1 i).1 q ((S.1 i).2.2 - 1), shl (S.1 i).2.1 q ((S.1 i).2.2 - 1), (S.1 i).2.2 - 1)) (PX dC dI ad) (AX ad)) 0 0 (AX ad) := by
  refine Met.ofW (cc := cX2_remove) (maxL := 3) (ret := none) pl_X2 rfl ?_
  intro p e s m args below meth c s₁ B hml hv
  obtain ⟨rfl, hPX⟩ := hv
  have hx := B.exec
  have hb := B.bytes
  have hr := B.returns
  have hts := atoms_spec (ws := wsX2_remove) B.pre
  have hown : s.vm.findClass RX2 = some m.cls := findClass_of_methodNamed B.named
  have hlocks := B.notSynchronized
  have hin2 : ∀ w ∈ u_ws RX2 TX2 3, w ∈ wsX2_remove := tu 1322 (by decide +kernel) rfl
  have hX := WX.of hPX
  have hl := lv_entry ([.ref (ad (3 * i)), .int (nI q)]) (n := 3) (Nat.le_of_ble_eq_true rfl)
  rw [lg_entry_eq]
  generalize (lg_sl ([.ref (ad (3 * i)), .int (nI q)]) ++ List.replicate (3 - (lg_sl ([.ref (ad (3 * i)), .int (nI q)])).length) Slot.unset).toArray = ls at hl ⊢
  have hl : lv_has ls 3 [(0, .ref (ad (3 * i))), (1, .int (nI q))] := hl
  show W p l e ({ frames := 1, cells := 0, slots := 0, locals := 23 } : Room) s m ([.ref (ad (3 * i)), .int (nI q)]).toArray below meth c s.heap [] 0 0 (MQ below (va_Qv (fun S' => S' = xR S i (shl (S.1 i).1 q ((S.1 i).2.2 - 1), shl (S.1 i).2.1 q ((S.1 i).2.2 - 1), (S.1 i).2.2 - 1)) (PX dC dI ad) (AX ad)) ([.ref (ad (3 * i)), .int (nI q)]).toArray s 0 0 (AX ad)) (F0 m 0 ls [])
  refine lv_iload_n hx hb dX2_remove_0 rfl (lv_at hl 1 rfl) ?_
  refine kn_if_lt (tgt := 12) hx hb (by omega) dX2_remove_1 (by decide) ?_
  refine lv_iload_n hx hb dX2_remove_4 rfl (lv_at hl 1 rfl) ?_
  refine lv_aload_n hx hb dX2_remove_5 rfl (lv_at hl 0 rfl) ?_
  refine kr_gn (n := (S.1 i).2.2) hx hb hts hin2 hown hX hi rfl (hts (.fieldLink RX2 18 "Orderlattice$Row" "many" "I") (tm 27 (by decide +kernel) rfl)) dX2_remove_6 ?_
  refine kn_icmp_lt (tgt := 13) hx hb (by omega) (by omega) dX2_remove_9 (by decide) (fun c2 => ?_) (fun c2 => absurd c2 (by omega))
  refine lv_aload_n hx hb dX2_remove_13 rfl (lv_at hl 0 rfl) ?_
  refine lv_dup hx hb dX2_remove_14 rfl ?_
  refine kr_gn (n := (S.1 i).2.2) hx hb hts hin2 hown hX hi rfl (hts (.fieldLink RX2 18 "Orderlattice$Row" "many" "I") (tm 27 (by decide +kernel) rfl)) dX2_remove_15 ?_
  refine lv_iconst (v := nI 1) hx hb dX2_remove_18 (by decide) ?_
  refine kn_isub hx hb (by omega) dX2_remove_19 ?_
  refine kr_pn (S' := (xR S i ((S.1 i).1, (S.1 i).2.1, ((S.1 i).2.2) - 1))) hx hb hts hin2 hown hX hi rfl (hts (.fieldLink RX2 18 "Orderlattice$Row" "many" "I") (tm 27 (by decide +kernel) rfl)) dX2_remove_20 (fun H locs hX => ?_)
  refine lv_iload_n hx hb dX2_remove_23 rfl (lv_at hl 1 rfl) ?_
  refine lv_istore_n (lv' := [(2, .int (nI q)), (0, .ref (ad (3 * i))), (1, .int (nI q))]) hx hb dX2_remove_24 rfl hl (by decide) rfl (fun ls hl => ?_)
  have loop25 : ∀ (fuel : Nat) (a : Nat) (ha : q ≤ a ∧ a ≤ (S.1 i).2.2 - 1) (H : Heap) (locs : List Loc), (S.1 i).2.2 - a < fuel → WX dC dI ad (xR S i (shl (S.1 i).1 q a, shl (S.1 i).2.1 q a, (S.1 i).2.2 - 1)) (AX ad) s H locs → ∀ ls : Array Slot, lv_has ls 3 [(0, .ref (ad (3 * i))), (1, .int (nI q)), (2, .int (nI a))] → W p l e ({ frames := 1, cells := 0, slots := 0, locals := 23 } : Room) s m ([.ref (ad (3 * i)), .int (nI q)]).toArray below meth c H locs 0 0 (MQ below (va_Qv (fun S' => S' = xR S i (shl (S.1 i).1 q ((S.1 i).2.2 - 1), shl (S.1 i).2.1 q ((S.1 i).2.2 - 1), (S.1 i).2.2 - 1)) (PX dC dI ad) (AX ad)) ([.ref (ad (3 * i)), .int (nI q)]).toArray s 0 0 (AX ad)) (F0 m 25 ls []) := by
    intro fuel
    induction fuel with
    | zero => intro a ha H locs hf; exact absurd hf (Nat.not_lt_zero _)
    | succ fuel ih25 =>
      intro a ha H locs hf hX ls hl
      refine lv_iload_n hx hb dX2_remove_25 rfl (lv_at hl 2 rfl) ?_
      refine lv_aload_n hx hb dX2_remove_26 rfl (lv_at hl 0 rfl) ?_
      refine kr_gn (n := (S.1 i).2.2 - 1) hx hb hts hin2 hown hX hi (by rw [xR_row]) (hts (.fieldLink RX2 18 "Orderlattice$Row" "many" "I") (tm 27 (by decide +kernel) rfl)) dX2_remove_27 ?_
      refine kn_icmp_ge (tgt := 58) hx hb (by omega) (by omega) dX2_remove_30 (by decide) (fun c3 => ?_) (fun c3 => ?_)
      · skip
        exact W.vret hx hb hr (fun t9 ht9 hW9 => ⟨⟨(xR S i (shl (S.1 i).1 q a, shl (S.1 i).2.1 q a, (S.1 i).2.2 - 1)), rfl, (by rw [show a = (S.1 i).2.2 - 1 by omega]), hX.P ht9 hW9⟩, hX.2.2.2.F ht9⟩) hX.2.2.2.2.2 dX2_remove_58
      · skip
        refine lv_aload_n hx hb dX2_remove_33 rfl (lv_at hl 0 rfl) ?_
        refine lv_iload_n hx hb dX2_remove_34 rfl (lv_at hl 2 rfl) ?_
        refine lv_aload_n hx hb dX2_remove_35 rfl (lv_at hl 0 rfl) ?_
        refine lv_iload_n hx hb dX2_remove_36 rfl (lv_at hl 2 rfl) ?_
        refine lv_iconst (v := nI 1) hx hb dX2_remove_37 (by decide) ?_
        refine kn_iadd hx hb dX2_remove_38 ?_
        refine kx_cr (v := nI ((S.1 i).1 (a + 1))) (va_runV (As := [.int (nI (a + 1))]) (rest := [.int (nI a), .ref (ad (3 * i))]) ⟨hx, hb, hml, hown, hts⟩ (m_X2_valueOn l dC dI ad (xR S i (shl (S.1 i).1 q a, shl (S.1 i).2.1 q a, (S.1 i).2.2 - 1)) i (a + 1) hi (by omega)) (cwV 1 hts gX2_remove_X2_valueOn rfl rfl rfl hdX2_valueOn_1 ⟨Nat.le_of_ble_eq_true rfl, Nat.le_of_ble_eq_true rfl⟩) (hX.preRow hi) rfl rfl hl.1 rfl (lv_room (Nat.le_of_ble_eq_true rfl)) dX2_remove_39 ⟨Nat.le_of_ble_eq_true rfl, Nat.le_of_ble_eq_true rfl⟩) (fun _ h => by rw [h, xR_row]; dsimp only; rw [shl_hi _ (by omega)]) ?_
        refine lv_aload_n hx hb dX2_remove_42 rfl (lv_at hl 0 rfl) ?_
        refine lv_iload_n hx hb dX2_remove_43 rfl (lv_at hl 2 rfl) ?_
        refine lv_iconst (v := nI 1) hx hb dX2_remove_44 (by decide) ?_
        refine kn_iadd hx hb dX2_remove_45 ?_
        refine kx_cr (v := nI ((S.1 i).2.1 (a + 1))) (va_runV (As := [.int (nI (a + 1))]) (rest := [.int (nI ((S.1 i).1 (a + 1))), .int (nI a), .ref (ad (3 * i))]) ⟨hx, hb, hml, hown, hts⟩ (m_X2_markOn l dC dI ad (xR S i (shl (S.1 i).1 q a, shl (S.1 i).2.1 q a, (S.1 i).2.2 - 1)) i (a + 1) hi (by omega)) (cwV 1 hts gX2_remove_X2_markOn rfl rfl rfl hdX2_markOn_1 ⟨Nat.le_of_ble_eq_true rfl, Nat.le_of_ble_eq_true rfl⟩) (hX.preRow hi) rfl rfl hl.1 rfl (lv_room (Nat.le_of_ble_eq_true rfl)) dX2_remove_46 ⟨Nat.le_of_ble_eq_true rfl, Nat.le_of_ble_eq_true rfl⟩) (fun _ h => by rw [h, xR_row]; dsimp only; rw [shl_hi _ (by omega)]) ?_
        refine kx_cv (va_runV (As := [.int (nI a), .int (nI ((S.1 i).1 (a + 1))), .int (nI ((S.1 i).2.1 (a + 1)))]) (rest := []) ⟨hx, hb, hml, hown, hts⟩ (m_X2_replace l dC dI ad (xR S i (shl (S.1 i).1 q a, shl (S.1 i).2.1 q a, (S.1 i).2.2 - 1)) i a ((S.1 i).1 (a + 1)) ((S.1 i).2.1 (a + 1)) hi (by omega)) (cwV 3 hts gX2_remove_X2_replace rfl rfl rfl hdX2_replace_3 ⟨Nat.le_of_ble_eq_true rfl, Nat.le_of_ble_eq_true rfl⟩) (hX.preRow hi) rfl rfl hl.1 rfl (lv_room (Nat.le_of_ble_eq_true rfl)) dX2_remove_49 ⟨Nat.le_of_ble_eq_true rfl, Nat.le_of_ble_eq_true rfl⟩) hX (fun _ h => h) (fun S_ H locs hw hX => ?_)
        rw [xR_row, xR_xR] at hw
        dsimp only at hw
        rw [shl_up _ (by omega), shl_up _ (by omega)] at hw
        subst hw
        refine lv_iinc (v := nI (a + 1)) (lv' := [(2, .int (nI (a + 1))), (0, .ref (ad (3 * i))), (1, .int (nI q))]) hx hb dX2_remove_52 hl (k := 2) rfl (nI_1 a) (by decide) rfl (fun ls hl => ?_)
        refine lv_goto (tgt := 25) hx hb dX2_remove_55 (by decide) ?_
        exact ih25  (a + 1) (by omega) _ _ (by omega) hX _ (lv_sub hl [1, 2, 0] rfl)
  exact loop25 ((S.1 i).2.2 - q + 1) q (by omega) _ _ (by omega) (WX.eqS (by rw [shl_q, shl_q]) hX) _ (lv_sub hl [1, 2, 0] rfl)
set_option maxHeartbeats 4000000 in
set_option maxRecDepth 100000 in
theorem m_X2_becomeCopyOf (l : Launch) (dC : Nat → ClassId) (dI : Nat → Nat → Nat) (ad : Nat → Nat) (S : XS) (i t : Nat) (hi : i < 8) (ht : t < 8) (hn : (S.1 t).2.2 ≤ 16) : Met l yX2_becomeCopyOf wsX2_becomeCopyOf ({ frames := 1, cells := 0, slots := 0, locals := 23 } : Room) (va_Pc [.ref (ad (3 * i)), .ref (ad (3 * t))] (PX dC dI ad S)) (va_Qv (fun S' => S' = xR S i (ovl (S.1 t).1 (S.1 i).1 (S.1 t).2.2, ovl (S.1 t).2.1 (S.1 i).2.1 (S.1 t).2.2, (S.1 t).2.2)) (PX dC dI ad) (AX ad)) 0 0 (AX ad) := by
  refine Met.ofW (cc := cX2_becomeCopyOf) (maxL := 4) (ret := none) pl_X2 rfl ?_
  intro p e s m args below meth c s₁ B hml hv
  obtain ⟨rfl, hPX⟩ := hv
  have hx := B.exec
  have hb := B.bytes
  have hr := B.returns
  have hts := atoms_spec (ws := wsX2_becomeCopyOf) B.pre
  have hown : s.vm.findClass RX2 = some m.cls := findClass_of_methodNamed B.named
  have hlocks := B.notSynchronized
  have hin2 : ∀ w ∈ u_ws RX2 TX2 3, w ∈ wsX2_becomeCopyOf := tu 1322 (by decide +kernel) rfl
  have hX := WX.of hPX
  have hl := lv_entry ([.ref (ad (3 * i)), .ref (ad (3 * t))]) (n := 4) (Nat.le_of_ble_eq_true rfl)
  rw [lg_entry_eq]
  generalize (lg_sl ([.ref (ad (3 * i)), .ref (ad (3 * t))]) ++ List.replicate (4 - (lg_sl ([.ref (ad (3 * i)), .ref (ad (3 * t))])).length) Slot.unset).toArray = ls at hl ⊢
  have hl : lv_has ls 4 [(0, .ref (ad (3 * i))), (1, .ref (ad (3 * t)))] := hl
  show W p l e ({ frames := 1, cells := 0, slots := 0, locals := 23 } : Room) s m ([.ref (ad (3 * i)), .ref (ad (3 * t))]).toArray below meth c s.heap [] 0 0 (MQ below (va_Qv (fun S' => S' = xR S i (ovl (S.1 t).1 (S.1 i).1 (S.1 t).2.2, ovl (S.1 t).2.1 (S.1 i).2.1 (S.1 t).2.2, (S.1 t).2.2)) (PX dC dI ad) (AX ad)) ([.ref (ad (3 * i)), .ref (ad (3 * t))]).toArray s 0 0 (AX ad)) (F0 m 0 ls [])
  refine lv_aload_n hx hb dX2_becomeCopyOf_0 rfl (lv_at hl 1 rfl) ?_
  refine kx_cr (v := nI ((S.1 t).2.2)) (va_runV (As := []) (rest := []) ⟨hx, hb, hml, hown, hts⟩ (m_X2_length l dC dI ad S t ht) (cwV 0 hts gX2_becomeCopyOf_X2_length rfl rfl rfl hdX2_length_0 ⟨Nat.le_of_ble_eq_true rfl, Nat.le_of_ble_eq_true rfl⟩) (hX.preRow ht) rfl rfl hl.1 rfl (lv_room (Nat.le_of_ble_eq_true rfl)) dX2_becomeCopyOf_1 ⟨Nat.le_of_ble_eq_true rfl, Nat.le_of_ble_eq_true rfl⟩) (fun _ h => h) ?_
  refine lv_istore_n (lv' := [(2, .int (nI ((S.1 t).2.2))), (0, .ref (ad (3 * i))), (1, .ref (ad (3 * t)))]) hx hb dX2_becomeCopyOf_4 rfl hl (by decide) rfl (fun ls hl => ?_)
  refine lv_iconst (v := nI 0) hx hb dX2_becomeCopyOf_5 (by decide) ?_
  refine lv_istore_n (lv' := [(3, .int (nI 0)), (2, .int (nI ((S.1 t).2.2))), (0, .ref (ad (3 * i))), (1, .ref (ad (3 * t)))]) hx hb dX2_becomeCopyOf_6 rfl hl (by decide) rfl (fun ls hl => ?_)
  have loop7 : ∀ (fuel : Nat) (a : Nat) (ha : a ≤ (S.1 t).2.2) (H : Heap) (locs : List Loc), (S.1 t).2.2 - a < fuel → WX dC dI ad (xR S i (ovl (S.1 t).1 (S.1 i).1 a, ovl (S.1 t).2.1 (S.1 i).2.1 a, (S.1 i).2.2)) (AX ad) s H locs → ∀ ls : Array Slot, lv_has ls 4 [(0, .ref (ad (3 * i))), (1, .ref (ad (3 * t))), (2, .int (nI ((S.1 t).2.2))), (3, .int (nI a))] → W p l e ({ frames := 1, cells := 0, slots := 0, locals := 23 } : Room) s m ([.ref (ad (3 * i)), .ref (ad (3 * t))]).toArray below meth c H locs 0 0 (MQ below (va_Qv (fun S' => S' = xR S i (ovl (S.1 t).1 (S.1 i).1 (S.1 t).2.2, ovl (S.1 t).2.1 (S.1 i).2.1 (S.1 t).2.2, (S.1 t).2.2)) (PX dC dI ad) (AX ad)) ([.ref (ad (3 * i)), .ref (ad (3 * t))]).toArray s 0 0 (AX ad)) (F0 m 7 ls []) := by
    intro fuel
    induction fuel with
    | zero => intro a ha H locs hf; exact absurd hf (Nat.not_lt_zero _)
    | succ fuel ih7 =>
      intro a ha H locs hf hX ls hl
      refine lv_iload_n hx hb dX2_becomeCopyOf_7 rfl (lv_at hl 3 rfl) ?_
      refine lv_iload_n hx hb dX2_becomeCopyOf_8 rfl (lv_at hl 2 rfl) ?_
      refine kn_icmp_ge (tgt := 33) hx hb (by omega) (by omega) dX2_becomeCopyOf_9 (by decide) (fun c1 => ?_) (fun c1 => ?_)
      · skip
        refine lv_aload_n hx hb dX2_becomeCopyOf_33 rfl (lv_at hl 0 rfl) ?_
        refine lv_iload_n hx hb dX2_becomeCopyOf_34 rfl (lv_at hl 2 rfl) ?_
        refine kr_pn (S' := (xR S i (ovl (S.1 t).1 (S.1 i).1 a, ovl (S.1 t).2.1 (S.1 i).2.1 a, (S.1 t).2.2))) hx hb hts hin2 hown hX hi (by rw [xR_row, xR_xR]) (hts (.fieldLink RX2 18 "Orderlattice$Row" "many" "I") (tm 27 (by decide +kernel) rfl)) dX2_becomeCopyOf_35 (fun H locs hX => ?_)
        exact W.vret hx hb hr (fun t9 ht9 hW9 => ⟨⟨(xR S i (ovl (S.1 t).1 (S.1 i).1 a, ovl (S.1 t).2.1 (S.1 i).2.1 a, (S.1 t).2.2)), rfl, (by rw [show a = (S.1 t).2.2 by omega]), hX.P ht9 hW9⟩, hX.2.2.2.F ht9⟩) hX.2.2.2.2.2 dX2_becomeCopyOf_38
      · skip
        refine lv_aload_n hx hb dX2_becomeCopyOf_12 rfl (lv_at hl 0 rfl) ?_
        refine lv_iload_n hx hb dX2_becomeCopyOf_13 rfl (lv_at hl 3 rfl) ?_
        refine lv_aload_n hx hb dX2_becomeCopyOf_14 rfl (lv_at hl 1 rfl) ?_
        refine lv_iload_n hx hb dX2_becomeCopyOf_15 rfl (lv_at hl 3 rfl) ?_
        refine kx_cr (v := nI ((S.1 t).1 a)) (va_runV (As := [.int (nI a)]) (rest := [.int (nI a), .ref (ad (3 * i))]) ⟨hx, hb, hml, hown, hts⟩ (m_X2_valueOn l dC dI ad (xR S i (ovl (S.1 t).1 (S.1 i).1 a, ovl (S.1 t).2.1 (S.1 i).2.1 a, (S.1 i).2.2)) t a ht (by omega)) (cwV 1 hts gX2_becomeCopyOf_X2_valueOn rfl rfl rfl hdX2_valueOn_1 ⟨Nat.le_of_ble_eq_true rfl, Nat.le_of_ble_eq_true rfl⟩) (hX.preRow ht) rfl rfl hl.1 rfl (lv_room (Nat.le_of_ble_eq_true rfl)) dX2_becomeCopyOf_16 ⟨Nat.le_of_ble_eq_true rfl, Nat.le_of_ble_eq_true rfl⟩) (fun _ h => by rw [h, ovl_src1 S i t a]) ?_
        refine lv_aload_n hx hb dX2_becomeCopyOf_19 rfl (lv_at hl 1 rfl) ?_
        refine lv_iload_n hx hb dX2_becomeCopyOf_20 rfl (lv_at hl 3 rfl) ?_
        refine kx_cr (v := nI ((S.1 t).2.1 a)) (va_runV (As := [.int (nI a)]) (rest := [.int (nI ((S.1 t).1 a)), .int (nI a), .ref (ad (3 * i))]) ⟨hx, hb, hml, hown, hts⟩ (m_X2_markOn l dC dI ad (xR S i (ovl (S.1 t).1 (S.1 i).1 a, ovl (S.1 t).2.1 (S.1 i).2.1 a, (S.1 i).2.2)) t a ht (by omega)) (cwV 1 hts gX2_becomeCopyOf_X2_markOn rfl rfl rfl hdX2_markOn_1 ⟨Nat.le_of_ble_eq_true rfl, Nat.le_of_ble_eq_true rfl⟩) (hX.preRow ht) rfl rfl hl.1 rfl (lv_room (Nat.le_of_ble_eq_true rfl)) dX2_becomeCopyOf_21 ⟨Nat.le_of_ble_eq_true rfl, Nat.le_of_ble_eq_true rfl⟩) (fun _ h => by rw [h, ovl_src2 S i t a]) ?_
        refine kx_cv (va_runV (As := [.int (nI a), .int (nI ((S.1 t).1 a)), .int (nI ((S.1 t).2.1 a))]) (rest := []) ⟨hx, hb, hml, hown, hts⟩ (m_X2_replace l dC dI ad (xR S i (ovl (S.1 t).1 (S.1 i).1 a, ovl (S.1 t).2.1 (S.1 i).2.1 a, (S.1 i).2.2)) i a ((S.1 t).1 a) ((S.1 t).2.1 a) hi (by omega)) (cwV 3 hts gX2_becomeCopyOf_X2_replace rfl rfl rfl hdX2_replace_3 ⟨Nat.le_of_ble_eq_true rfl, Nat.le_of_ble_eq_true rfl⟩) (hX.preRow hi) rfl rfl hl.1 rfl (lv_room (Nat.le_of_ble_eq_true rfl)) dX2_becomeCopyOf_24 ⟨Nat.le_of_ble_eq_true rfl, Nat.le_of_ble_eq_true rfl⟩) hX (fun _ h => h) (fun S_ H locs hw hX => ?_)
        rw [xR_row, xR_xR] at hw
        dsimp only at hw
        rw [ovl_up, ovl_up] at hw
        subst hw
        refine lv_iinc (v := nI (a + 1)) (lv' := [(3, .int (nI (a + 1))), (0, .ref (ad (3 * i))), (1, .ref (ad (3 * t))), (2, .int (nI ((S.1 t).2.2)))]) hx hb dX2_becomeCopyOf_27 hl (k := 3) rfl (nI_1 a) (by decide) rfl (fun ls hl => ?_)
        refine lv_goto (tgt := 7) hx hb dX2_becomeCopyOf_30 (by decide) ?_
        exact ih7  (a + 1) (by omega) _ _ (by omega) hX _ (lv_sub hl [1, 2, 3, 0] rfl)
  exact loop7 ((S.1 t).2.2 - 0 + 1) 0 (by omega) _ _ (by omega) (WX.eqS (by rw [ovl_0, ovl_0]; exact (xR_self S i).symm) hX) _ (lv_sub hl [2, 3, 1, 0] rfl)
set_option maxHeartbeats 4000000 in
set_option maxRecDepth 100000 in
theorem m_X2_becomeAllValues (l : Launch) (dC : Nat → ClassId) (dI : Nat → Nat → Nat) (ad : Nat → Nat) (S : XS) (i : Nat) (hi : i < 8) : Met l yX2_becomeAllValues wsX2_becomeAllValues ({ frames := 1, cells := 0, slots := 0, locals := 22 } : Room) (va_Pc [.ref (ad (3 * i))] (PX dC dI ad S)) (va_Qv (fun S' => S' = xR S i (ovl (fun k => k) (S.1 i).1 16, ovl (fun k => k) (S.1 i).2.1 16, 16)) (PX dC dI ad) (AX ad)) 0 0 (AX ad) := by
  refine Met.ofW (cc := cX2_becomeAllValues) (maxL := 2) (ret := none) pl_X2 rfl ?_
  intro p e s m args below meth c s₁ B hml hv
  obtain ⟨rfl, hPX⟩ := hv
  have hx := B.exec
  have hb := B.bytes
  have hr := B.returns
  have hts := atoms_spec (ws := wsX2_becomeAllValues) B.pre
  have hown : s.vm.findClass RX2 = some m.cls := findClass_of_methodNamed B.named
  have hlocks := B.notSynchronized
  have hin2 : ∀ w ∈ u_ws RX2 TX2 3, w ∈ wsX2_becomeAllValues := tu 1322 (by decide +kernel) rfl
  have hX := WX.of hPX
  have hl := lv_entry ([.ref (ad (3 * i))]) (n := 2) (Nat.le_of_ble_eq_true rfl)
  rw [lg_entry_eq]
  generalize (lg_sl ([.ref (ad (3 * i))]) ++ List.replicate (2 - (lg_sl ([.ref (ad (3 * i))])).length) Slot.unset).toArray = ls at hl ⊢
  have hl : lv_has ls 2 [(0, .ref (ad (3 * i)))] := hl
  show W p l e ({ frames := 1, cells := 0, slots := 0, locals := 22 } : Room) s m ([.ref (ad (3 * i))]).toArray below meth c s.heap [] 0 0 (MQ below (va_Qv (fun S' => S' = xR S i (ovl (fun k => k) (S.1 i).1 16, ovl (fun k => k) (S.1 i).2.1 16, 16)) (PX dC dI ad) (AX ad)) ([.ref (ad (3 * i))]).toArray s 0 0 (AX ad)) (F0 m 0 ls [])
  refine lv_aload_n hx hb dX2_becomeAllValues_0 rfl (lv_at hl 0 rfl) ?_
  refine lv_iconst (v := nI 0) hx hb dX2_becomeAllValues_1 (by decide) ?_
  refine kr_pn (S' := (xR S i ((S.1 i).1, (S.1 i).2.1, 0))) hx hb hts hin2 hown hX hi rfl (hts (.fieldLink RX2 18 "Orderlattice$Row" "many" "I") (tm 27 (by decide +kernel) rfl)) dX2_becomeAllValues_2 (fun H locs hX => ?_)
  refine lv_iconst (v := nI 0) hx hb dX2_becomeAllValues_5 (by decide) ?_
  refine lv_istore_n (lv' := [(1, .int (nI 0)), (0, .ref (ad (3 * i)))]) hx hb dX2_becomeAllValues_6 rfl hl (by decide) rfl (fun ls hl => ?_)
  have loop7 : ∀ (fuel : Nat) (a : Nat) (ha : a ≤ 16) (H : Heap) (locs : List Loc), 16 - a < fuel → WX dC dI ad (xR S i (ovl (fun k => k) (S.1 i).1 a, ovl (fun k => k) (S.1 i).2.1 a, a)) (AX ad) s H locs → ∀ ls : Array Slot, lv_has ls 2 [(0, .ref (ad (3 * i))), (1, .int (nI a))] → W p l e ({ frames := 1, cells := 0, slots := 0, locals := 22 } : Room) s m ([.ref (ad (3 * i))]).toArray below meth c H locs 0 0 (MQ below (va_Qv (fun S' => S' = xR S i (ovl (fun k => k) (S.1 i).1 16, ovl (fun k => k) (S.1 i).2.1 16, 16)) (PX dC dI ad) (AX ad)) ([.ref (ad (3 * i))]).toArray s 0 0 (AX ad)) (F0 m 7 ls []) := by
    intro fuel
    induction fuel with
    | zero => intro a ha H locs hf; exact absurd hf (Nat.not_lt_zero _)
    | succ fuel ih7 =>
      intro a ha H locs hf hX ls hl
      refine lv_iload_n hx hb dX2_becomeAllValues_7 rfl (lv_at hl 1 rfl) ?_
      refine lv_bipush (v := nI 16) hx hb dX2_becomeAllValues_8 (by decide) ?_
      refine kn_icmp_ge (tgt := 25) hx hb (by omega) (by omega) dX2_becomeAllValues_10 (by decide) (fun c1 => ?_) (fun c1 => ?_)
      · skip
        exact W.vret hx hb hr (fun t9 ht9 hW9 => ⟨⟨(xR S i (ovl (fun k => k) (S.1 i).1 a, ovl (fun k => k) (S.1 i).2.1 a, a)), rfl, (by rw [show a = 16 by omega]), hX.P ht9 hW9⟩, hX.2.2.2.F ht9⟩) hX.2.2.2.2.2 dX2_becomeAllValues_25
      · skip
        refine lv_aload_n hx hb dX2_becomeAllValues_13 rfl (lv_at hl 0 rfl) ?_
        refine lv_iload_n hx hb dX2_becomeAllValues_14 rfl (lv_at hl 1 rfl) ?_
        refine lv_iload_n hx hb dX2_becomeAllValues_15 rfl (lv_at hl 1 rfl) ?_
        refine kx_cv (va_runV (As := [.int (nI a), .int (nI a)]) (rest := []) ⟨hx, hb, hml, hown, hts⟩ (m_X2_append l dC dI ad (xR S i (ovl (fun k => k) (S.1 i).1 a, ovl (fun k => k) (S.1 i).2.1 a, a)) i a a hi (by rw [xR_row]; omega)) (cwV 2 hts gX2_becomeAllValues_X2_append rfl rfl rfl hdX2_append_2 ⟨Nat.le_of_ble_eq_true rfl, Nat.le_of_ble_eq_true rfl⟩) (hX.preRow hi) rfl rfl hl.1 rfl (lv_room (Nat.le_of_ble_eq_true rfl)) dX2_becomeAllValues_16 ⟨Nat.le_of_ble_eq_true rfl, Nat.le_of_ble_eq_true rfl⟩) hX (fun _ h => h) (fun S_ H locs hw hX => ?_)
        rw [xR_row, xR_xR] at hw
        dsimp only at hw
        rw [ovl_up (fun k => k), ovl_up (fun k => k)] at hw
        subst hw
        refine lv_iinc (v := nI (a + 1)) (lv' := [(1, .int (nI (a + 1))), (0, .ref (ad (3 * i)))]) hx hb dX2_becomeAllValues_19 hl (k := 1) rfl (nI_1 a) (by decide) rfl (fun ls hl => ?_)
        refine lv_goto (tgt := 7) hx hb dX2_becomeAllValues_22 (by decide) ?_
        exact ih7  (a + 1) (by omega) _ _ (by omega) hX _ (lv_sub hl [1, 0] rfl)
  exact loop7 (16 - 0 + 1) 0 (by omega) _ _ (by omega) (WX.eqS (by rw [ovl_0, ovl_0]) hX) _ (lv_sub hl [1, 0] rfl)
end
section
/-! orders: steps appended, ranks counted -/
def apn {α : Type} (old src : Nat → α) (n0 a : Nat) : Nat → α := fun k => if n0 ≤ k ∧ k < n0 + a then src (k - n0) else old k
theorem apn_0 {α : Type} (old src : Nat → α) (n0 : Nat) : apn old src n0 0 = old := by
  funext k
  unfold apn
  rw [if_neg (by omega)]
theorem apn_up {α : Type} (old src : Nat → α) (n0 a : Nat) : va_up (apn old src n0 a) (n0 + a) (src a) = apn old src n0 (a + 1) := by
  funext k
  unfold va_up apn
  by_cases e : k = n0 + a
  · subst e; rw [if_pos rfl, if_pos (by omega), show n0 + a - n0 = a by omega]
  · rw [if_neg e]
    by_cases h3 : n0 ≤ k ∧ k < n0 + a
    · rw [if_pos h3, if_pos (by omega)]
    · rw [if_neg h3, if_neg (by omega)]
theorem apn_src1 (S : XS) {j t n0 a : Nat} (hs : t = j → n0 = 0) (D : Nat → Bool) (x : (Nat → Nat) × (Nat → Nat) × Nat × Nat) : ((xO S j (apn (S.2.1 j).1 (S.2.1 t).1 n0 a, D, x)).2.1 t).1 a = (S.2.1 t).1 a := by
  by_cases h : t = j
  · subst h
    rw [xO_ord]
    show apn _ _ n0 a a = _
    unfold apn
    rw [hs rfl]
    split
    · rfl
    · rfl
  · rw [xO_ne _ _ h]
theorem apn_src2 (S : XS) {j t n0 a : Nat} (hs : t = j → n0 = 0) (K : Nat → Nat) (x : (Nat → Nat) × (Nat → Nat) × Nat × Nat) : ((xO S j (K, apn (S.2.1 j).2.1 (S.2.1 t).2.1 n0 a, x)).2.1 t).2.1 a = (S.2.1 t).2.1 a := by
  by_cases h : t = j
  · subst h
    rw [xO_ord]
    show apn _ _ n0 a a = _
    unfold apn
    rw [hs rfl]
    split
    · rfl
    · rfl
  · rw [xO_ne _ _ h]
theorem push_t {x9 : Nat} {c : Nat → Nat} (r : Nat → Nat) {a : Nat} (h : x9 < c a) : va_up (ovl (fun v => r v + (if x9 < c v then 1 else 0)) r a) a (ovl (fun v => r v + (if x9 < c v then 1 else 0)) r a a + 1) = ovl (fun v => r v + (if x9 < c v then 1 else 0)) r (a + 1) := by
  rw [ovl_out (Nat.le_refl a), show r a + 1 = (fun v => r v + (if x9 < c v then 1 else 0)) a by show _ = r a + (if x9 < c a then 1 else 0); rw [if_pos h], ovl_up]
theorem push_f {x9 : Nat} {c : Nat → Nat} (r : Nat → Nat) {a : Nat} (h : c a ≤ x9) : ovl (fun v => r v + (if x9 < c v then 1 else 0)) r a = ovl (fun v => r v + (if x9 < c v then 1 else 0)) r (a + 1) := by
  rw [← ovl_up]
  funext k
  unfold va_up
  split
  · rename_i e
    subst e
    rw [ovl_out (Nat.le_refl k), if_neg (by omega)]
    rfl
  · rfl
/-- how many heads before h9 are ahead of v -/
def rnk (c : Nat → Nat) (h9 v : Nat) : Nat := cntB (fun h => headB c h && decide (c h < c v)) h9
theorem rnk_le (c : Nat → Nat) (h9 v : Nat) : rnk c h9 v ≤ h9 := cntB_le _ _
theorem rnk_push {c : Nat → Nat} {h9 : Nat} (h : headB c h9 = true) {r : Nat → Nat} : ovl (fun v => ovl (rnk c h9) r 16 v + (if c h9 < c v then 1 else 0)) (ovl (rnk c h9) r 16) 16 = ovl (rnk c (h9 + 1)) r 16 := by
  funext k
  unfold ovl
  by_cases hk : k < 16
  · rw [if_pos hk, if_pos hk]
    show (if k < 16 then rnk c h9 k else r k) + (if c h9 < c k then 1 else 0) = rnk c (h9 + 1) k
    rw [if_pos hk]
    unfold rnk
    by_cases h2 : c h9 < c k
    · rw [if_pos h2, cntB_t (by rw [h, decide_eq_true h2]; rfl)]
    · rw [if_neg h2, cntB_f (by rw [h, decide_eq_false h2]; rfl)]
      rfl
  · rw [if_neg hk, if_neg hk, if_neg hk]
theorem rnk_not {c : Nat → Nat} {h9 : Nat} (h : headB c h9 = false) : rnk c (h9 + 1) = rnk c h9 := by
  funext k
  exact cntB_f (by rw [h]; rfl)
set_option maxHeartbeats 4000000 in
set_option maxRecDepth 100000 in
theorem m_X1_length (l : Launch) (dC : Nat → ClassId) (dI : Nat → Nat → Nat) (ad : Nat → Nat) (S : XS) (j : Nat) (hj : j < 6) : Met l yX1_length wsX1_length ({ frames := 0, cells := 0, slots := 0, locals := 0 } : Room) (va_Pc [.ref (ad (24 + 5 * j))] (PX dC dI ad S)) (vp_Si (fun r => r = nI (S.2.1 j).2.2.2.2.1)) 0 0 (fun _ => False) := by
  refine Met.ofW (cc := cX1_length) (maxL := 1) (ret := (some .int)) pl_X1 rfl ?_
  intro p e s m args below meth c s₁ B hml hv
  obtain ⟨rfl, hPX⟩ := hv
  have hx := B.exec
  have hb := B.bytes
  have hr := B.returns
  have hts := atoms_spec (ws := wsX1_length) B.pre
  have hown : s.vm.findClass RX1 = some m.cls := findClass_of_methodNamed B.named
  have hlocks := B.notSynchronized
  have hin1 : ∀ w ∈ u_ws RX1 TX1 6, w ∈ wsX1_length := tu 1324 (by decide +kernel) rfl
  have hX := WX.of hPX
  have hl := lv_entry ([.ref (ad (24 + 5 * j))]) (n := 1) (Nat.le_of_ble_eq_true rfl)
  rw [lg_entry_eq]
  generalize (lg_sl ([.ref (ad (24 + 5 * j))]) ++ List.replicate (1 - (lg_sl ([.ref (ad (24 + 5 * j))])).length) Slot.unset).toArray = ls at hl ⊢
  have hl : lv_has ls 1 [(0, .ref (ad (24 + 5 * j)))] := hl
  show W p l e ({ frames := 0, cells := 0, slots := 0, locals := 0 } : Room) s m ([.ref (ad (24 + 5 * j))]).toArray below meth c s.heap [] 0 0 (MQ below (vp_Si (fun r => r = nI (S.2.1 j).2.2.2.2.1)) ([.ref (ad (24 + 5 * j))]).toArray s 0 0 (fun _ => False)) (F0 m 0 ls [])
  refine lv_aload_n hx hb dX1_length_0 rfl (lv_at hl 0 rfl) ?_
  refine ko_gn (n := (S.2.1 j).2.2.2.2.1) hx hb hts hin1 hown hX hj rfl (hts (.fieldLink RX1 26 "Orderlattice$Order" "many" "I") (tm 37 (by decide +kernel) rfl)) dX1_length_1 ?_
  exact W.iret (v := nI ((S.2.1 j).2.2.2.2.1)) hx hb hr (fun t9 ht9 hW9 => ⟨_, rfl, rfl, ht9⟩) (fun _ h => nomatch h) dX1_length_4
set_option maxHeartbeats 4000000 in
set_option maxRecDepth 100000 in
theorem m_X1_classCount (l : Launch) (dC : Nat → ClassId) (dI : Nat → Nat → Nat) (ad : Nat → Nat) (S : XS) (j : Nat) (hj : j < 6) : Met l yX1_classCount wsX1_classCount ({ frames := 0, cells := 0, slots := 0, locals := 0 } : Room) (va_Pc [.ref (ad (24 + 5 * j))] (PX dC dI ad S)) (vp_Si (fun r => r = nI (S.2.1 j).2.2.2.2.2)) 0 0 (fun _ => False) := by
  refine Met.ofW (cc := cX1_classCount) (maxL := 1) (ret := (some .int)) pl_X1 rfl ?_
  intro p e s m args below meth c s₁ B hml hv
  obtain ⟨rfl, hPX⟩ := hv
  have hx := B.exec
  have hb := B.bytes
  have hr := B.returns
  have hts := atoms_spec (ws := wsX1_classCount) B.pre
  have hown : s.vm.findClass RX1 = some m.cls := findClass_of_methodNamed B.named
  have hlocks := B.notSynchronized
  have hin1 : ∀ w ∈ u_ws RX1 TX1 6, w ∈ wsX1_classCount := tu 1324 (by decide +kernel) rfl
  have hX := WX.of hPX
  have hl := lv_entry ([.ref (ad (24 + 5 * j))]) (n := 1) (Nat.le_of_ble_eq_true rfl)
  rw [lg_entry_eq]
  generalize (lg_sl ([.ref (ad (24 + 5 * j))]) ++ List.replicate (1 - (lg_sl ([.ref (ad (24 + 5 * j))])).length) Slot.unset).toArray = ls at hl ⊢
  have hl : lv_has ls 1 [(0, .ref (ad (24 + 5 * j)))] := hl
  show W p l e ({ frames := 0, cells := 0, slots := 0, locals := 0 } : Room) s m ([.ref (ad (24 + 5 * j))]).toArray below meth c s.heap [] 0 0 (MQ below (vp_Si (fun r => r = nI (S.2.1 j).2.2.2.2.2)) ([.ref (ad (24 + 5 * j))]).toArray s 0 0 (fun _ => False)) (F0 m 0 ls [])
  refine lv_aload_n hx hb dX1_classCount_0 rfl (lv_at hl 0 rfl) ?_
  refine ko_gs (n := (S.2.1 j).2.2.2.2.2) hx hb hts hin1 hown hX hj rfl (hts (.fieldLink RX1 30 "Orderlattice$Order" "classes" "I") (tm 38 (by decide +kernel) rfl)) dX1_classCount_1 ?_
  exact W.iret (v := nI ((S.2.1 j).2.2.2.2.2)) hx hb hr (fun t9 ht9 hW9 => ⟨_, rfl, rfl, ht9⟩) (fun _ h => nomatch h) dX1_classCount_4
set_option maxHeartbeats 4000000 in
set_option maxRecDepth 100000 in
theorem m_X1_keyOn (l : Launch) (dC : Nat → ClassId) (dI : Nat → Nat → Nat) (ad : Nat → Nat) (S : XS) (j k : Nat) (hj : j < 6) (hk : k < 10) : Met l yX1_keyOn wsX1_keyOn ({ frames := 0, cells := 0, slots := 0, locals := 0 } : Room) (va_Pc [.ref (ad (24 + 5 * j)), .int (nI k)] (PX dC dI ad S)) (vp_Si (fun r => r = nI ((S.2.1 j).1 k))) 0 0 (fun _ => False) := by
  refine Met.ofW (cc := cX1_keyOn) (maxL := 2) (ret := (some .int)) pl_X1 rfl ?_
  intro p e s m args below meth c s₁ B hml hv
  obtain ⟨rfl, hPX⟩ := hv
  have hx := B.exec
  have hb := B.bytes
  have hr := B.returns
  have hts := atoms_spec (ws := wsX1_keyOn) B.pre
  have hown : s.vm.findClass RX1 = some m.cls := findClass_of_methodNamed B.named
  have hlocks := B.notSynchronized
  have hin1 : ∀ w ∈ u_ws RX1 TX1 6, w ∈ wsX1_keyOn := tu 1324 (by decide +kernel) rfl
  have hX := WX.of hPX
  have hl := lv_entry ([.ref (ad (24 + 5 * j)), .int (nI k)]) (n := 2) (Nat.le_of_ble_eq_true rfl)
  rw [lg_entry_eq]
  generalize (lg_sl ([.ref (ad (24 + 5 * j)), .int (nI k)]) ++ List.replicate (2 - (lg_sl ([.ref (ad (24 + 5 * j)), .int (nI k)])).length) Slot.unset).toArray = ls at hl ⊢
  have hl : lv_has ls 2 [(0, .ref (ad (24 + 5 * j))), (1, .int (nI k))] := hl
  show W p l e ({ frames := 0, cells := 0, slots := 0, locals := 0 } : Room) s m ([.ref (ad (24 + 5 * j)), .int (nI k)]).toArray below meth c s.heap [] 0 0 (MQ below (vp_Si (fun r => r = nI ((S.2.1 j).1 k))) ([.ref (ad (24 + 5 * j)), .int (nI k)]).toArray s 0 0 (fun _ => False)) (F0 m 0 ls [])
  refine lv_iload_n hx hb dX1_keyOn_0 rfl (lv_at hl 1 rfl) ?_
  refine kn_if_lt (tgt := 22) hx hb (by omega) dX1_keyOn_1 (by decide) ?_
  refine lv_iload_n hx hb dX1_keyOn_4 rfl (lv_at hl 1 rfl) ?_
  refine lv_aload_n hx hb dX1_keyOn_5 rfl (lv_at hl 0 rfl) ?_
  refine ko_gk hx hb hts hin1 hown hX hj (hts (.fieldLink RX1 11 "Orderlattice$Order" "keys" "[I") (tm 31 (by decide +kernel) rfl)) dX1_keyOn_6 ?_
  refine ko_nk hx hb hX hj dX1_keyOn_9 ?_
  refine kn_icmp_ge (tgt := 22) hx hb (by omega) (by omega) dX1_keyOn_10 (by decide) (fun c2 => absurd c2 (by omega)) (fun c2 => ?_)
  refine lv_aload_n hx hb dX1_keyOn_13 rfl (lv_at hl 0 rfl) ?_
  refine ko_gk hx hb hts hin1 hown hX hj (hts (.fieldLink RX1 11 "Orderlattice$Order" "keys" "[I") (tm 31 (by decide +kernel) rfl)) dX1_keyOn_14 ?_
  refine lv_iload_n hx hb dX1_keyOn_17 rfl (lv_at hl 1 rfl) ?_
  refine ko_lk (v := ((S.2.1 j).1) k) hx hb hX hj (by omega) rfl dX1_keyOn_18 ?_
  refine lv_goto (tgt := 23) hx hb dX1_keyOn_19 (by decide) ?_
  exact W.iret (v := nI (((S.2.1 j).1) k)) hx hb hr (fun t9 ht9 hW9 => ⟨_, rfl, rfl, ht9⟩) (fun _ h => nomatch h) dX1_keyOn_23
set_option maxHeartbeats 4000000 in
set_option maxRecDepth 100000 in
theorem m_X1_rankOf (l : Launch) (dC : Nat → ClassId) (dI : Nat → Nat → Nat) (ad : Nat → Nat) (S : XS) (j k : Nat) (hj : j < 6) (hk : k < 16) : Met l yX1_rankOf wsX1_rankOf ({ frames := 0, cells := 0, slots := 0, locals := 0 } : Room) (va_Pc [.ref (ad (24 + 5 * j)), .int (nI k)] (PX dC dI ad S)) (vp_Si (fun r => r = nI ((S.2.1 j).2.2.2.1 k))) 0 0 (fun _ => False) := by
  refine Met.ofW (cc := cX1_rankOf) (maxL := 2) (ret := (some .int)) pl_X1 rfl ?_
  intro p e s m args below meth c s₁ B hml hv
  obtain ⟨rfl, hPX⟩ := hv
  have hx := B.exec
  have hb := B.bytes
  have hr := B.returns
  have hts := atoms_spec (ws := wsX1_rankOf) B.pre
  have hown : s.vm.findClass RX1 = some m.cls := findClass_of_methodNamed B.named
  have hlocks := B.notSynchronized
  have hin1 : ∀ w ∈ u_ws RX1 TX1 6, w ∈ wsX1_rankOf := tu 1324 (by decide +kernel) rfl
  have hX := WX.of hPX
  have hl := lv_entry ([.ref (ad (24 + 5 * j)), .int (nI k)]) (n := 2) (Nat.le_of_ble_eq_true rfl)
  rw [lg_entry_eq]
  generalize (lg_sl ([.ref (ad (24 + 5 * j)), .int (nI k)]) ++ List.replicate (2 - (lg_sl ([.ref (ad (24 + 5 * j)), .int (nI k)])).length) Slot.unset).toArray = ls at hl ⊢
  have hl : lv_has ls 2 [(0, .ref (ad (24 + 5 * j))), (1, .int (nI k))] := hl
  show W p l e ({ frames := 0, cells := 0, slots := 0, locals := 0 } : Room) s m ([.ref (ad (24 + 5 * j)), .int (nI k)]).toArray below meth c s.heap [] 0 0 (MQ below (vp_Si (fun r => r = nI ((S.2.1 j).2.2.2.1 k))) ([.ref (ad (24 + 5 * j)), .int (nI k)]).toArray s 0 0 (fun _ => False)) (F0 m 0 ls [])
  refine lv_iload_n hx hb dX1_rankOf_0 rfl (lv_at hl 1 rfl) ?_
  refine kn_if_lt (tgt := 22) hx hb (by omega) dX1_rankOf_1 (by decide) ?_
  refine lv_iload_n hx hb dX1_rankOf_4 rfl (lv_at hl 1 rfl) ?_
  refine lv_aload_n hx hb dX1_rankOf_5 rfl (lv_at hl 0 rfl) ?_
  refine ko_gr hx hb hts hin1 hown hX hj (hts (.fieldLink RX1 23 "Orderlattice$Order" "ranks" "[I") (tm 36 (by decide +kernel) rfl)) dX1_rankOf_6 ?_
  refine ko_nr hx hb hX hj dX1_rankOf_9 ?_
  refine kn_icmp_ge (tgt := 22) hx hb (by omega) (by omega) dX1_rankOf_10 (by decide) (fun c2 => absurd c2 (by omega)) (fun c2 => ?_)
  refine lv_aload_n hx hb dX1_rankOf_13 rfl (lv_at hl 0 rfl) ?_
  refine ko_gr hx hb hts hin1 hown hX hj (hts (.fieldLink RX1 23 "Orderlattice$Order" "ranks" "[I") (tm 36 (by decide +kernel) rfl)) dX1_rankOf_14 ?_
  refine lv_iload_n hx hb dX1_rankOf_17 rfl (lv_at hl 1 rfl) ?_
  refine ko_lr (v := ((S.2.1 j).2.2.2.1) k) hx hb hX hj (by omega) rfl dX1_rankOf_18 ?_
  refine lv_goto (tgt := 23) hx hb dX1_rankOf_19 (by decide) ?_
  exact W.iret (v := nI (((S.2.1 j).2.2.2.1) k)) hx hb hr (fun t9 ht9 hW9 => ⟨_, rfl, rfl, ht9⟩) (fun _ h => nomatch h) dX1_rankOf_23
set_option maxHeartbeats 4000000 in
set_option maxRecDepth 100000 in
theorem m_X1_isDownOn (l : Launch) (dC : Nat → ClassId) (dI : Nat → Nat → Nat) (ad : Nat → Nat) (S : XS) (j k : Nat) (hj : j < 6) (hk : k < 10) : Met l yX1_isDownOn wsX1_isDownOn ({ frames := 0, cells := 0, slots := 0, locals := 0 } : Room) (va_Pc [.ref (ad (24 + 5 * j)), .int (nI k)] (PX dC dI ad S)) (vp_Si (fun r => r = bI ((S.2.1 j).2.1 k))) 0 0 (fun _ => False) := by
  refine Met.ofW (cc := cX1_isDownOn) (maxL := 2) (ret := (some .boolean)) pl_X1 rfl ?_
  intro p e s m args below meth c s₁ B hml hv
  obtain ⟨rfl, hPX⟩ := hv
  have hx := B.exec
  have hb := B.bytes
  have hr := B.returns
  have hts := atoms_spec (ws := wsX1_isDownOn) B.pre
  have hown : s.vm.findClass RX1 = some m.cls := findClass_of_methodNamed B.named
  have hlocks := B.notSynchronized
  have hin1 : ∀ w ∈ u_ws RX1 TX1 6, w ∈ wsX1_isDownOn := tu 1324 (by decide +kernel) rfl
  have hX := WX.of hPX
  have hl := lv_entry ([.ref (ad (24 + 5 * j)), .int (nI k)]) (n := 2) (Nat.le_of_ble_eq_true rfl)
  rw [lg_entry_eq]
  generalize (lg_sl ([.ref (ad (24 + 5 * j)), .int (nI k)]) ++ List.replicate (2 - (lg_sl ([.ref (ad (24 + 5 * j)), .int (nI k)])).length) Slot.unset).toArray = ls at hl ⊢
  have hl : lv_has ls 2 [(0, .ref (ad (24 + 5 * j))), (1, .int (nI k))] := hl
  show W p l e ({ frames := 0, cells := 0, slots := 0, locals := 0 } : Room) s m ([.ref (ad (24 + 5 * j)), .int (nI k)]).toArray below meth c s.heap [] 0 0 (MQ below (vp_Si (fun r => r = bI ((S.2.1 j).2.1 k))) ([.ref (ad (24 + 5 * j)), .int (nI k)]).toArray s 0 0 (fun _ => False)) (F0 m 0 ls [])
  refine lv_iload_n hx hb dX1_isDownOn_0 rfl (lv_at hl 1 rfl) ?_
  refine kn_if_lt (tgt := 26) hx hb (by omega) dX1_isDownOn_1 (by decide) ?_
  refine lv_iload_n hx hb dX1_isDownOn_4 rfl (lv_at hl 1 rfl) ?_
  refine lv_aload_n hx hb dX1_isDownOn_5 rfl (lv_at hl 0 rfl) ?_
  refine ko_gd hx hb hts hin1 hown hX hj (hts (.fieldLink RX1 15 "Orderlattice$Order" "downs" "[Z") (tm 33 (by decide +kernel) rfl)) dX1_isDownOn_6 ?_
  refine ko_nd hx hb hX hj dX1_isDownOn_9 ?_
  refine kn_icmp_ge (tgt := 26) hx hb (by omega) (by omega) dX1_isDownOn_10 (by decide) (fun c2 => absurd c2 (by omega)) (fun c2 => ?_)
  refine lv_aload_n hx hb dX1_isDownOn_13 rfl (lv_at hl 0 rfl) ?_
  refine ko_gd hx hb hts hin1 hown hX hj (hts (.fieldLink RX1 15 "Orderlattice$Order" "downs" "[Z") (tm 33 (by decide +kernel) rfl)) dX1_isDownOn_14 ?_
  refine lv_iload_n hx hb dX1_isDownOn_17 rfl (lv_at hl 1 rfl) ?_
  refine ko_ld (z := ((S.2.1 j).2.1) k) hx hb hX hj (by omega) rfl dX1_isDownOn_18 ?_
  refine kb_if_eq (tgt := 26) hx hb dX1_isDownOn_19 (by decide) (fun c3 => ?_) (fun c3 => ?_)
  · skip
    have hc := c3
    refine lv_iconst (v := nI 0) hx hb dX1_isDownOn_26 (by decide) ?_
    exact W.zret (v := bI false) hx hb hr (bI_narrow _) (fun t9 ht9 hW9 => ⟨_, rfl, (by rw [hc]), ht9⟩) (fun _ h => nomatch h) dX1_isDownOn_27
  · skip
    have hc := c3
    refine lv_iconst (v := nI 1) hx hb dX1_isDownOn_22 (by decide) ?_
    refine lv_goto (tgt := 27) hx hb dX1_isDownOn_23 (by decide) ?_
    exact W.zret (v := bI true) hx hb hr (bI_narrow _) (fun t9 ht9 hW9 => ⟨_, rfl, (by rw [hc]), ht9⟩) (fun _ h => nomatch h) dX1_isDownOn_27
set_option maxHeartbeats 4000000 in
set_option maxRecDepth 100000 in
theorem m_X1_compared (l : Launch) (dC : Nat → ClassId) (dI : Nat → Nat → Nat) (ad : Nat → Nat) (S : XS) (j a b : Nat) (hj : j < 6) (ho : ordOK (S.2.1 j)) (ha : a < 16) (hb9 : b < 16) : Met l yX1_compared wsX1_compared ({ frames := 0, cells := 0, slots := 0, locals := 0 } : Room) (va_Pc [.ref (ad (24 + 5 * j)), .int (nI a), .int (nI b)] (PX dC dI ad S)) (vp_Si (fun r => r = cmpI ((S.2.1 j).2.2.1 a) ((S.2.1 j).2.2.1 b))) 0 0 (fun _ => False) := by
  refine Met.ofW (cc := cX1_compared) (maxL := 7) (ret := (some .int)) pl_X1 rfl ?_
  intro p e s m args below meth c s₁ B hml hv
  obtain ⟨rfl, hPX⟩ := hv
  have hx := B.exec
  have hb := B.bytes
  have hr := B.returns
  have hts := atoms_spec (ws := wsX1_compared) B.pre
  have hown : s.vm.findClass RX1 = some m.cls := findClass_of_methodNamed B.named
  have hlocks := B.notSynchronized
  have hin1 : ∀ w ∈ u_ws RX1 TX1 6, w ∈ wsX1_compared := tu 1324 (by decide +kernel) rfl
  have hX := WX.of hPX
  have hl := lv_entry ([.ref (ad (24 + 5 * j)), .int (nI a), .int (nI b)]) (n := 7) (Nat.le_of_ble_eq_true rfl)
  rw [lg_entry_eq]
  generalize (lg_sl ([.ref (ad (24 + 5 * j)), .int (nI a), .int (nI b)]) ++ List.replicate (7 - (lg_sl ([.ref (ad (24 + 5 * j)), .int (nI a), .int (nI b)])).length) Slot.unset).toArray = ls at hl ⊢
  have hl : lv_has ls 7 [(0, .ref (ad (24 + 5 * j))), (1, .int (nI a)), (2, .int (nI b))] := hl
  show W p l e ({ frames := 0, cells := 0, slots := 0, locals := 0 } : Room) s m ([.ref (ad (24 + 5 * j)), .int (nI a), .int (nI b)]).toArray below meth c s.heap [] 0 0 (MQ below (vp_Si (fun r => r = cmpI ((S.2.1 j).2.2.1 a) ((S.2.1 j).2.2.1 b))) ([.ref (ad (24 + 5 * j)), .int (nI a), .int (nI b)]).toArray s 0 0 (fun _ => False)) (F0 m 0 ls [])
  have h1 := ho.code ha
  have h2 := ho.code hb9
  refine lv_iload_n hx hb dX1_compared_0 rfl (lv_at hl 1 rfl) ?_
  refine kn_if_lt (tgt := 22) hx hb (by omega) dX1_compared_1 (by decide) ?_
  refine lv_iload_n hx hb dX1_compared_4 rfl (lv_at hl 1 rfl) ?_
  refine lv_aload_n hx hb dX1_compared_5 rfl (lv_at hl 0 rfl) ?_
  refine ko_gc hx hb hts hin1 hown hX hj (hts (.fieldLink RX1 19 "Orderlattice$Order" "codes" "[J") (tm 35 (by decide +kernel) rfl)) dX1_compared_6 ?_
  refine ko_nc hx hb hX hj dX1_compared_9 ?_
  refine kn_icmp_ge (tgt := 22) hx hb (by omega) (by omega) dX1_compared_10 (by decide) (fun c2 => absurd c2 (by omega)) (fun c2 => ?_)
  refine lv_aload_n hx hb dX1_compared_13 rfl (lv_at hl 0 rfl) ?_
  refine ko_gc hx hb hts hin1 hown hX hj (hts (.fieldLink RX1 19 "Orderlattice$Order" "codes" "[J") (tm 35 (by decide +kernel) rfl)) dX1_compared_14 ?_
  refine lv_iload_n hx hb dX1_compared_17 rfl (lv_at hl 1 rfl) ?_
  refine ko_lc (v := ((S.2.1 j).2.2.1) a) hx hb hX hj (by omega) rfl dX1_compared_18 ?_
  refine lv_goto (tgt := 23) hx hb dX1_compared_19 (by decide) ?_
  refine lv_lstore_n (lv' := [(3, .long (lN (((S.2.1 j).2.2.1) a))), (0, .ref (ad (24 + 5 * j))), (1, .int (nI a)), (2, .int (nI b))]) hx hb dX1_compared_23 rfl hl (by decide) rfl (fun ls hl => ?_)
  refine lv_iload_n hx hb dX1_compared_24 rfl (lv_at hl 3 rfl) ?_
  refine kn_if_lt (tgt := 46) hx hb (by omega) dX1_compared_25 (by decide) ?_
  refine lv_iload_n hx hb dX1_compared_28 rfl (lv_at hl 3 rfl) ?_
  refine lv_aload_n hx hb dX1_compared_29 rfl (lv_at hl 1 rfl) ?_
  refine ko_gc hx hb hts hin1 hown hX hj (hts (.fieldLink RX1 19 "Orderlattice$Order" "codes" "[J") (tm 35 (by decide +kernel) rfl)) dX1_compared_30 ?_
  refine ko_nc hx hb hX hj dX1_compared_33 ?_
  refine kn_icmp_ge (tgt := 46) hx hb (by omega) (by omega) dX1_compared_34 (by decide) (fun c4 => absurd c4 (by omega)) (fun c4 => ?_)
  refine lv_aload_n hx hb dX1_compared_37 rfl (lv_at hl 1 rfl) ?_
  refine ko_gc hx hb hts hin1 hown hX hj (hts (.fieldLink RX1 19 "Orderlattice$Order" "codes" "[J") (tm 35 (by decide +kernel) rfl)) dX1_compared_38 ?_
  refine lv_iload_n hx hb dX1_compared_41 rfl (lv_at hl 3 rfl) ?_
  refine ko_lc (v := ((S.2.1 j).2.2.1) b) hx hb hX hj (by omega) rfl dX1_compared_42 ?_
  refine lv_goto (tgt := 47) hx hb dX1_compared_43 (by decide) ?_
  refine lv_lstore (lv' := [(5, .long (lN (((S.2.1 j).2.2.1) b))), (3, .long (lN (((S.2.1 j).2.2.1) a))), (0, .ref (ad (24 + 5 * j))), (1, .int (nI a)), (2, .int (nI b))]) hx hb dX1_compared_47 hl (by decide) rfl (fun ls hl => ?_)
  refine lv_lload_n hx hb dX1_compared_49 rfl (lv_at hl 1 rfl) ?_
  refine lv_lload hx hb dX1_compared_50 (lv_at hl 0 rfl) ?_
  refine kc_lcmp hx hb (by omega) (by omega) dX1_compared_52 ?_
  refine kc_if_ge (tgt := 60) hx hb dX1_compared_53 (by decide) (fun c5 => ?_) (fun c5 => ?_)
  · skip
    refine lv_lload_n hx hb dX1_compared_60 rfl (lv_at hl 1 rfl) ?_
    refine lv_lload hx hb dX1_compared_61 (lv_at hl 0 rfl) ?_
    refine kc_lcmp hx hb (by omega) (by omega) dX1_compared_63 ?_
    refine kc_if_le (tgt := 71) hx hb dX1_compared_64 (by decide) (fun c6 => ?_) (fun c6 => ?_)
    · skip
      refine lv_iconst (v := nI 0) hx hb dX1_compared_71 (by decide) ?_
      exact W.iret (v := nI 0) hx hb hr (fun t9 ht9 hW9 => ⟨_, rfl, (cmpI_eq (by omega)).symm, ht9⟩) (fun _ h => nomatch h) dX1_compared_72
    · skip
      refine lv_iconst (v := nI 1) hx hb dX1_compared_67 (by decide) ?_
      refine lv_goto (tgt := 72) hx hb dX1_compared_68 (by decide) ?_
      exact W.iret (v := nI 1) hx hb hr (fun t9 ht9 hW9 => ⟨_, rfl, (cmpI_gt (by omega)).symm, ht9⟩) (fun _ h => nomatch h) dX1_compared_72
  · skip
    refine lv_iconst (v := (-1)) hx hb dX1_compared_56 (by decide) ?_
    refine lv_goto (tgt := 72) hx hb dX1_compared_57 (by decide) ?_
    exact W.iret (v := (-1)) hx hb hr (fun t9 ht9 hW9 => ⟨_, rfl, (cmpI_lt (by omega)).symm, ht9⟩) (fun _ h => nomatch h) dX1_compared_72
set_option maxHeartbeats 4000000 in
set_option maxRecDepth 100000 in
theorem m_X1_addStep (l : Launch) (dC : Nat → ClassId) (dI : Nat → Nat → Nat) (ad : Nat → Nat) (S : XS) (j k : Nat) (d : Bool) (hj : j < 6) (hn : (S.2.1 j).2.2.2.2.1 < 10) : Met l yX1_addStep wsX1_addStep ({ frames := 0, cells := 0, slots := 0, locals := 0 } : Room) (va_Pc [.ref (ad (24 + 5 * j)), .int (nI k), .int (bI d)] (PX dC dI ad S)) (va_Qv (fun S' => S' = xO S j (va_up (S.2.1 j).1 (S.2.1 j).2.2.2.2.1 k, va_up (S.2.1 j).2.1 (S.2.1 j).2.2.2.2.1 d, (S.2.1 j).2.2.1, (S.2.1 j).2.2.2.1, (S.2.1 j).2.2.2.2.1 + 1, (S.2.1 j).2.2.2.2.2)) (PX dC dI ad) (AX ad)) 0 0 (AX ad) := by
  refine Met.ofW (cc := cX1_addStep) (maxL := 3) (ret := none) pl_X1 rfl ?_
  intro p e s m args below meth c s₁ B hml hv
  obtain ⟨rfl, hPX⟩ := hv
  have hx := B.exec
  have hb := B.bytes
  have hr := B.returns
  have hts := atoms_spec (ws := wsX1_addStep) B.pre
  have hown : s.vm.findClass RX1 = some m.cls := findClass_of_methodNamed B.named
  have hlocks := B.notSynchronized
  have hin1 : ∀ w ∈ u_ws RX1 TX1 6, w ∈ wsX1_addStep := tu 1324 (by decide +kernel) rfl
  have hX := WX.of hPX
  have hl := lv_entry ([.ref (ad (24 + 5 * j)), .int (nI k), .int (bI d)]) (n := 3) (Nat.le_of_ble_eq_true rfl)
  rw [lg_entry_eq]
  generalize (lg_sl ([.ref (ad (24 + 5 * j)), .int (nI k), .int (bI d)]) ++ List.replicate (3 - (lg_sl ([.ref (ad (24 + 5 * j)), .int (nI k), .int (bI d)])).length) Slot.unset).toArray = ls at hl ⊢
  have hl : lv_has ls 3 [(0, .ref (ad (24 + 5 * j))), (1, .int (nI k)), (2, .int (bI d))] := hl
  show W p l e ({ frames := 0, cells := 0, slots := 0, locals := 0 } : Room) s m ([.ref (ad (24 + 5 * j)), .int (nI k), .int (bI d)]).toArray below meth c s.heap [] 0 0 (MQ below (va_Qv (fun S' => S' = xO S j (va_up (S.2.1 j).1 (S.2.1 j).2.2.2.2.1 k, va_up (S.2.1 j).2.1 (S.2.1 j).2.2.2.2.1 d, (S.2.1 j).2.2.1, (S.2.1 j).2.2.2.1, (S.2.1 j).2.2.2.2.1 + 1, (S.2.1 j).2.2.2.2.2)) (PX dC dI ad) (AX ad)) ([.ref (ad (24 + 5 * j)), .int (nI k), .int (bI d)]).toArray s 0 0 (AX ad)) (F0 m 0 ls [])
  refine lv_aload_n hx hb dX1_addStep_0 rfl (lv_at hl 0 rfl) ?_
  refine ko_gn (n := (S.2.1 j).2.2.2.2.1) hx hb hts hin1 hown hX hj rfl (hts (.fieldLink RX1 26 "Orderlattice$Order" "many" "I") (tm 37 (by decide +kernel) rfl)) dX1_addStep_1 ?_
  refine kn_if_lt (tgt := 61) hx hb (by omega) dX1_addStep_4 (by decide) ?_
  refine lv_aload_n hx hb dX1_addStep_7 rfl (lv_at hl 0 rfl) ?_
  refine ko_gn (n := (S.2.1 j).2.2.2.2.1) hx hb hts hin1 hown hX hj rfl (hts (.fieldLink RX1 26 "Orderlattice$Order" "many" "I") (tm 37 (by decide +kernel) rfl)) dX1_addStep_8 ?_
  refine lv_aload_n hx hb dX1_addStep_11 rfl (lv_at hl 0 rfl) ?_
  refine ko_gk hx hb hts hin1 hown hX hj (hts (.fieldLink RX1 11 "Orderlattice$Order" "keys" "[I") (tm 31 (by decide +kernel) rfl)) dX1_addStep_12 ?_
  refine ko_nk hx hb hX hj dX1_addStep_15 ?_
  refine kn_icmp_ge (tgt := 61) hx hb (by omega) (by omega) dX1_addStep_16 (by decide) (fun c2 => absurd c2 (by omega)) (fun c2 => ?_)
  refine lv_aload_n hx hb dX1_addStep_19 rfl (lv_at hl 0 rfl) ?_
  refine ko_gn (n := (S.2.1 j).2.2.2.2.1) hx hb hts hin1 hown hX hj rfl (hts (.fieldLink RX1 26 "Orderlattice$Order" "many" "I") (tm 37 (by decide +kernel) rfl)) dX1_addStep_20 ?_
  refine lv_aload_n hx hb dX1_addStep_23 rfl (lv_at hl 0 rfl) ?_
  refine ko_gd hx hb hts hin1 hown hX hj (hts (.fieldLink RX1 15 "Orderlattice$Order" "downs" "[Z") (tm 33 (by decide +kernel) rfl)) dX1_addStep_24 ?_
  refine ko_nd hx hb hX hj dX1_addStep_27 ?_
  refine kn_icmp_ge (tgt := 61) hx hb (by omega) (by omega) dX1_addStep_28 (by decide) (fun c3 => absurd c3 (by omega)) (fun c3 => ?_)
  refine lv_aload_n hx hb dX1_addStep_31 rfl (lv_at hl 0 rfl) ?_
  refine ko_gk hx hb hts hin1 hown hX hj (hts (.fieldLink RX1 11 "Orderlattice$Order" "keys" "[I") (tm 31 (by decide +kernel) rfl)) dX1_addStep_32 ?_
  refine lv_aload_n hx hb dX1_addStep_35 rfl (lv_at hl 0 rfl) ?_
  refine ko_gn (n := (S.2.1 j).2.2.2.2.1) hx hb hts hin1 hown hX hj rfl (hts (.fieldLink RX1 26 "Orderlattice$Order" "many" "I") (tm 37 (by decide +kernel) rfl)) dX1_addStep_36 ?_
  refine lv_iload_n hx hb dX1_addStep_39 rfl (lv_at hl 1 rfl) ?_
  refine ko_sk (S' := (xO S j (va_up ((S.2.1 j).1) ((S.2.1 j).2.2.2.2.1) k, (S.2.1 j).2.1, (S.2.1 j).2.2.1, (S.2.1 j).2.2.2.1, (S.2.1 j).2.2.2.2.1, (S.2.1 j).2.2.2.2.2))) hx hb hX hj (by omega) rfl dX1_addStep_40 (fun H locs hX => ?_)
  refine lv_aload_n hx hb dX1_addStep_41 rfl (lv_at hl 0 rfl) ?_
  refine ko_gd hx hb hts hin1 hown hX hj (hts (.fieldLink RX1 15 "Orderlattice$Order" "downs" "[Z") (tm 33 (by decide +kernel) rfl)) dX1_addStep_42 ?_
  refine lv_aload_n hx hb dX1_addStep_45 rfl (lv_at hl 0 rfl) ?_
  refine ko_gn (n := (S.2.1 j).2.2.2.2.1) hx hb hts hin1 hown hX hj (by rw [xO_ord]) (hts (.fieldLink RX1 26 "Orderlattice$Order" "many" "I") (tm 37 (by decide +kernel) rfl)) dX1_addStep_46 ?_
  refine lv_iload_n hx hb dX1_addStep_49 rfl (lv_at hl 2 rfl) ?_
  refine ko_sd (S' := (xO S j (va_up ((S.2.1 j).1) ((S.2.1 j).2.2.2.2.1) k, va_up ((S.2.1 j).2.1) ((S.2.1 j).2.2.2.2.1) d, (S.2.1 j).2.2.1, (S.2.1 j).2.2.2.1, (S.2.1 j).2.2.2.2.1, (S.2.1 j).2.2.2.2.2))) hx hb hX hj (by omega) (by rw [xO_ord, xO_xO]) dX1_addStep_50 (fun H locs hX => ?_)
  refine lv_aload_n hx hb dX1_addStep_51 rfl (lv_at hl 0 rfl) ?_
  refine lv_dup hx hb dX1_addStep_52 rfl ?_
  refine ko_gn (n := (S.2.1 j).2.2.2.2.1) hx hb hts hin1 hown hX hj (by rw [xO_ord]) (hts (.fieldLink RX1 26 "Orderlattice$Order" "many" "I") (tm 37 (by decide +kernel) rfl)) dX1_addStep_53 ?_
  refine lv_iconst (v := nI 1) hx hb dX1_addStep_56 (by decide) ?_
  refine kn_iadd hx hb dX1_addStep_57 ?_
  refine ko_pn (S' := (xO S j (va_up ((S.2.1 j).1) ((S.2.1 j).2.2.2.2.1) k, va_up ((S.2.1 j).2.1) ((S.2.1 j).2.2.2.2.1) d, (S.2.1 j).2.2.1, (S.2.1 j).2.2.2.1, (S.2.1 j).2.2.2.2.1 + 1, (S.2.1 j).2.2.2.2.2))) hx hb hts hin1 hown hX hj (by rw [xO_ord, xO_xO]) (hts (.fieldLink RX1 26 "Orderlattice$Order" "many" "I") (tm 37 (by decide +kernel) rfl)) dX1_addStep_58 (fun H locs hX => ?_)
  exact W.vret hx hb hr (fun t9 ht9 hW9 => ⟨⟨(xO S j (va_up ((S.2.1 j).1) ((S.2.1 j).2.2.2.2.1) k, va_up ((S.2.1 j).2.1) ((S.2.1 j).2.2.2.2.1) d, (S.2.1 j).2.2.1, (S.2.1 j).2.2.2.1, (S.2.1 j).2.2.2.2.1 + 1, (S.2.1 j).2.2.2.2.2)), rfl, rfl, hX.P ht9 hW9⟩, hX.2.2.2.F ht9⟩) hX.2.2.2.2.2 dX1_addStep_61
set_option maxHeartbeats 4000000 in
set_option maxRecDepth 100000 in
theorem m_X1_addSteps (l : Launch) (dC : Nat → ClassId) (dI : Nat → Nat → Nat) (ad : Nat → Nat) (S : XS) (j t m9 : Nat) (hj : j < 6) (ht : t < 6) (hm : m9 ≤ 10) (hn : (S.2.1 j).2.2.2.2.1 + m9 ≤ 10) (hs : t = j → (S.2.1 j).2.2.2.2.1 = 0) : Met l yX1_addSteps wsX1_addSteps ({ frames := 1, cells := 0, slots := 0, locals := 22 } : Room) (va_Pc [.ref (ad (24 + 5 * j)), .ref (ad (24 + 5 * t)), .int (nI m9)] (PX dC dI ad S)) (va_Qv (fun S' => S' = xO S j (apn ((S.2.1 j).1) ((S.2.1 t).1) ((S.2.1 j).2.2.2.2.1) m9, apn ((S.2.1 j).2.1) ((S.2.1 t).2.1) ((S.2.1 j).2.2.2.2.1) m9, (S.2.1 j).2.2.1, (S.2.1 j).2.2.2.1, (S.2.1 j).2.2.2.2.1 + m9, (S.2.1 j).2.2.2.2.2)) (PX dC dI ad) (AX ad)) 0 0 (AX ad) := by
  refine Met.ofW (cc := cX1_addSteps) (maxL := 4) (ret := none) pl_X1 rfl ?_
  intro p e s m args below meth c s₁ B hml hv
  obtain ⟨rfl, hPX⟩ := hv
  have hx := B.exec
  have hb := B.bytes
  have hr := B.returns
  have hts := atoms_spec (ws := wsX1_addSteps) B.pre
  have hown : s.vm.findClass RX1 = some m.cls := findClass_of_methodNamed B.named
  have hlocks := B.notSynchronized
  have hX := WX.of hPX
  have hl := lv_entry ([.ref (ad (24 + 5 * j)), .ref (ad (24 + 5 * t)), .int (nI m9)]) (n := 4) (Nat.le_of_ble_eq_true rfl)
  rw [lg_entry_eq]
  generalize (lg_sl ([.ref (ad (24 + 5 * j)), .ref (ad (24 + 5 * t)), .int (nI m9)]) ++ List.replicate (4 - (lg_sl ([.ref (ad (24 + 5 * j)), .ref (ad (24 + 5 * t)), .int (nI m9)])).length) Slot.unset).toArray = ls at hl ⊢
  have hl : lv_has ls 4 [(0, .ref (ad (24 + 5 * j))), (1, .ref (ad (24 + 5 * t))), (2, .int (nI m9))] := hl
  show W p l e ({ frames := 1, cells := 0, slots := 0, locals := 22 } : Room) s m ([.ref (ad (24 + 5 * j)), .ref (ad (24 + 5 * t)), .int (nI m9)]).toArray below meth c s.heap [] 0 0 (MQ below (va_Qv (fun S' => S' = xO S j (apn ((S.2.1 j).1) ((S.2.1 t).1) ((S.2.1 j).2.2.2.2.1) m9, apn ((S.2.1 j).2.1) ((S.2.1 t).2.1) ((S.2.1 j).2.2.2.2.1) m9, (S.2.1 j).2.2.1, (S.2.1 j).2.2.2.1, (S.2.1 j).2.2.2.2.1 + m9, (S.2.1 j).2.2.2.2.2)) (PX dC dI ad) (AX ad)) ([.ref (ad (24 + 5 * j)), .ref (ad (24 + 5 * t)), .int (nI m9)]).toArray s 0 0 (AX ad)) (F0 m 0 ls [])
  refine lv_iconst (v := nI 0) hx hb dX1_addSteps_0 (by decide) ?_
  refine lv_istore_n (lv' := [(3, .int (nI 0)), (0, .ref (ad (24 + 5 * j))), (1, .ref (ad (24 + 5 * t))), (2, .int (nI m9))]) hx hb dX1_addSteps_1 rfl hl (by decide) rfl (fun ls hl => ?_)
  have loop2 : ∀ (fuel : Nat) (a : Nat) (ha : a ≤ m9) (H : Heap) (locs : List Loc), m9 - a < fuel → WX dC dI ad (xO S j (apn ((S.2.1 j).1) ((S.2.1 t).1) ((S.2.1 j).2.2.2.2.1) a, apn ((S.2.1 j).2.1) ((S.2.1 t).2.1) ((S.2.1 j).2.2.2.2.1) a, (S.2.1 j).2.2.1, (S.2.1 j).2.2.2.1, (S.2.1 j).2.2.2.2.1 + a, (S.2.1 j).2.2.2.2.2)) (AX ad) s H locs → ∀ ls : Array Slot, lv_has ls 4 [(0, .ref (ad (24 + 5 * j))), (1, .ref (ad (24 + 5 * t))), (2, .int (nI m9)), (3, .int (nI a))] → W p l e ({ frames := 1, cells := 0, slots := 0, locals := 22 } : Room) s m ([.ref (ad (24 + 5 * j)), .ref (ad (24 + 5 * t)), .int (nI m9)]).toArray below meth c H locs 0 0 (MQ below (va_Qv (fun S' => S' = xO S j (apn ((S.2.1 j).1) ((S.2.1 t).1) ((S.2.1 j).2.2.2.2.1) m9, apn ((S.2.1 j).2.1) ((S.2.1 t).2.1) ((S.2.1 j).2.2.2.2.1) m9, (S.2.1 j).2.2.1, (S.2.1 j).2.2.2.1, (S.2.1 j).2.2.2.2.1 + m9, (S.2.1 j).2.2.2.2.2)) (PX dC dI ad) (AX ad)) ([.ref (ad (24 + 5 * j)), .ref (ad (24 + 5 * t)), .int (nI m9)]).toArray s 0 0 (AX ad)) (F0 m 2 ls []) := by
    intro fuel
    induction fuel with
    | zero => intro a ha H locs hf; exact absurd hf (Nat.not_lt_zero _)
    | succ fuel ih2 =>
      intro a ha H locs hf hX ls hl
      refine lv_iload_n hx hb dX1_addSteps_2 rfl (lv_at hl 3 rfl) ?_
      refine lv_iload_n hx hb dX1_addSteps_3 rfl (lv_at hl 2 rfl) ?_
      refine kn_icmp_ge (tgt := 27) hx hb (by omega) (by omega) dX1_addSteps_4 (by decide) (fun c1 => ?_) (fun c1 => ?_)
      · skip
        exact W.vret hx hb hr (fun t9 ht9 hW9 => ⟨⟨(xO S j (apn ((S.2.1 j).1) ((S.2.1 t).1) ((S.2.1 j).2.2.2.2.1) a, apn ((S.2.1 j).2.1) ((S.2.1 t).2.1) ((S.2.1 j).2.2.2.2.1) a, (S.2.1 j).2.2.1, (S.2.1 j).2.2.2.1, (S.2.1 j).2.2.2.2.1 + a, (S.2.1 j).2.2.2.2.2)), rfl, (by rw [show a = m9 by omega]), hX.P ht9 hW9⟩, hX.2.2.2.F ht9⟩) hX.2.2.2.2.2 dX1_addSteps_27
      · skip
        refine lv_aload_n hx hb dX1_addSteps_7 rfl (lv_at hl 0 rfl) ?_
        refine lv_aload_n hx hb dX1_addSteps_8 rfl (lv_at hl 1 rfl) ?_
        refine lv_iload_n hx hb dX1_addSteps_9 rfl (lv_at hl 3 rfl) ?_
        refine kx_cr (v := nI ((S.2.1 t).1 a)) (va_runV (As := [.int (nI a)]) (rest := [.ref (ad (24 + 5 * j))]) ⟨hx, hb, hml, hown, hts⟩ (m_X1_keyOn l dC dI ad (xO S j (apn ((S.2.1 j).1) ((S.2.1 t).1) ((S.2.1 j).2.2.2.2.1) a, apn ((S.2.1 j).2.1) ((S.2.1 t).2.1) ((S.2.1 j).2.2.2.2.1) a, (S.2.1 j).2.2.1, (S.2.1 j).2.2.2.1, (S.2.1 j).2.2.2.2.1 + a, (S.2.1 j).2.2.2.2.2)) t a ht (by omega)) (cwV 1 hts gX1_addSteps_X1_keyOn rfl rfl rfl hdX1_keyOn_1 ⟨Nat.le_of_ble_eq_true rfl, Nat.le_of_ble_eq_true rfl⟩) (hX.preOrd ht) rfl rfl hl.1 rfl (lv_room (Nat.le_of_ble_eq_true rfl)) dX1_addSteps_10 ⟨Nat.le_of_ble_eq_true rfl, Nat.le_of_ble_eq_true rfl⟩) (fun _ h => by rw [h, apn_src1 S hs]) ?_
        refine lv_aload_n hx hb dX1_addSteps_13 rfl (lv_at hl 1 rfl) ?_
        refine lv_iload_n hx hb dX1_addSteps_14 rfl (lv_at hl 3 rfl) ?_
        refine kx_cr (v := bI ((S.2.1 t).2.1 a)) (va_runV (As := [.int (nI a)]) (rest := [.int (nI ((S.2.1 t).1 a)), .ref (ad (24 + 5 * j))]) ⟨hx, hb, hml, hown, hts⟩ (m_X1_isDownOn l dC dI ad (xO S j (apn ((S.2.1 j).1) ((S.2.1 t).1) ((S.2.1 j).2.2.2.2.1) a, apn ((S.2.1 j).2.1) ((S.2.1 t).2.1) ((S.2.1 j).2.2.2.2.1) a, (S.2.1 j).2.2.1, (S.2.1 j).2.2.2.1, (S.2.1 j).2.2.2.2.1 + a, (S.2.1 j).2.2.2.2.2)) t a ht (by omega)) (cwV 1 hts gX1_addSteps_X1_isDownOn rfl rfl rfl hdX1_isDownOn_1 ⟨Nat.le_of_ble_eq_true rfl, Nat.le_of_ble_eq_true rfl⟩) (hX.preOrd ht) rfl rfl hl.1 rfl (lv_room (Nat.le_of_ble_eq_true rfl)) dX1_addSteps_15 ⟨Nat.le_of_ble_eq_true rfl, Nat.le_of_ble_eq_true rfl⟩) (fun _ h => by rw [h, apn_src2 S hs]) ?_
        refine kx_cv (va_runV (As := [.int (nI ((S.2.1 t).1 a)), .int (bI ((S.2.1 t).2.1 a))]) (rest := []) ⟨hx, hb, hml, hown, hts⟩ (m_X1_addStep l dC dI ad (xO S j (apn ((S.2.1 j).1) ((S.2.1 t).1) ((S.2.1 j).2.2.2.2.1) a, apn ((S.2.1 j).2.1) ((S.2.1 t).2.1) ((S.2.1 j).2.2.2.2.1) a, (S.2.1 j).2.2.1, (S.2.1 j).2.2.2.1, (S.2.1 j).2.2.2.2.1 + a, (S.2.1 j).2.2.2.2.2)) j ((S.2.1 t).1 a) ((S.2.1 t).2.1 a) hj (by rw [xO_ord]; show _ + a < 10; omega)) (cwV 2 hts gX1_addSteps_X1_addStep rfl rfl rfl hdX1_addStep_2 ⟨Nat.le_of_ble_eq_true rfl, Nat.le_of_ble_eq_true rfl⟩) (hX.preOrd hj) rfl rfl hl.1 rfl (lv_room (Nat.le_of_ble_eq_true rfl)) dX1_addSteps_18 ⟨Nat.le_of_ble_eq_true rfl, Nat.le_of_ble_eq_true rfl⟩) hX (fun _ h => h) (fun S_ H locs hw hX => ?_)
        rw [xO_ord, xO_xO] at hw
        dsimp only at hw
        rw [apn_up, apn_up] at hw
        subst hw
        refine lv_iinc (v := nI (a + 1)) (lv' := [(3, .int (nI (a + 1))), (0, .ref (ad (24 + 5 * j))), (1, .ref (ad (24 + 5 * t))), (2, .int (nI m9))]) hx hb dX1_addSteps_21 hl (k := 3) rfl (nI_1 a) (by decide) rfl (fun ls hl => ?_)
        refine lv_goto (tgt := 2) hx hb dX1_addSteps_24 (by decide) ?_
        exact ih2  (a + 1) (by omega) _ _ (by omega) hX _ (lv_sub hl [1, 2, 3, 0] rfl)
  exact loop2 (m9 - 0 + 1) 0 (by omega) _ _ (by omega) (WX.eqS (by rw [apn_0, apn_0, Nat.add_zero]; exact (xO_self S j).symm) hX) _ (lv_sub hl [1, 2, 3, 0] rfl)
set_option maxHeartbeats 4000000 in
set_option maxRecDepth 100000 in
theorem m_X1_isFirstOfClass (l : Launch) (dC : Nat → ClassId) (dI : Nat → Nat → Nat) (ad : Nat → Nat) (S : XS) (j v : Nat) (hj : j < 6) (hv : v < 16) (hc9 : ∀ k, k < 16 → (S.2.1 j).2.2.1 k < 2 ^ 62) : Met l yX1_isFirstOfClass wsX1_isFirstOfClass ({ frames := 0, cells := 0, slots := 0, locals := 0 } : Room) (va_Pc [.ref (ad (24 + 5 * j)), .int (nI v)] (PX dC dI ad S)) (vp_Si (fun r => r = bI (headB (S.2.1 j).2.2.1 v))) 0 0 (fun _ => False) := by
  refine Met.ofW (cc := cX1_isFirstOfClass) (maxL := 3) (ret := (some .boolean)) pl_X1 rfl ?_
  intro p e s m args below meth c s₁ B hml hv
  obtain ⟨rfl, hPX⟩ := hv
  have hx := B.exec
  have hb := B.bytes
  have hr := B.returns
  have hts := atoms_spec (ws := wsX1_isFirstOfClass) B.pre
  have hown : s.vm.findClass RX1 = some m.cls := findClass_of_methodNamed B.named
  have hlocks := B.notSynchronized
  have hin1 : ∀ w ∈ u_ws RX1 TX1 6, w ∈ wsX1_isFirstOfClass := tu 1324 (by decide +kernel) rfl
  have hX := WX.of hPX
  have hl := lv_entry ([.ref (ad (24 + 5 * j)), .int (nI v)]) (n := 3) (Nat.le_of_ble_eq_true rfl)
  rw [lg_entry_eq]
  generalize (lg_sl ([.ref (ad (24 + 5 * j)), .int (nI v)]) ++ List.replicate (3 - (lg_sl ([.ref (ad (24 + 5 * j)), .int (nI v)])).length) Slot.unset).toArray = ls at hl ⊢
  have hl : lv_has ls 3 [(0, .ref (ad (24 + 5 * j))), (1, .int (nI v))] := hl
  show W p l e ({ frames := 0, cells := 0, slots := 0, locals := 0 } : Room) s m ([.ref (ad (24 + 5 * j)), .int (nI v)]).toArray below meth c s.heap [] 0 0 (MQ below (vp_Si (fun r => r = bI (headB (S.2.1 j).2.2.1 v))) ([.ref (ad (24 + 5 * j)), .int (nI v)]).toArray s 0 0 (fun _ => False)) (F0 m 0 ls [])
  refine lv_iconst (v := nI 0) hx hb dX1_isFirstOfClass_0 (by decide) ?_
  refine lv_istore_n (lv' := [(2, .int (nI 0)), (0, .ref (ad (24 + 5 * j))), (1, .int (nI v))]) hx hb dX1_isFirstOfClass_1 rfl hl (by decide) rfl (fun ls hl => ?_)
  have loop2 : ∀ (fuel : Nat) (k : Nat) (hk : k ≤ v) (hq : ∀ q, q < k → (S.2.1 j).2.2.1 q ≠ (S.2.1 j).2.2.1 v), v - k < fuel → ∀ ls : Array Slot, lv_has ls 3 [(0, .ref (ad (24 + 5 * j))), (1, .int (nI v)), (2, .int (nI k))] → W p l e ({ frames := 0, cells := 0, slots := 0, locals := 0 } : Room) s m ([.ref (ad (24 + 5 * j)), .int (nI v)]).toArray below meth c s.heap [] 0 0 (MQ below (vp_Si (fun r => r = bI (headB (S.2.1 j).2.2.1 v))) ([.ref (ad (24 + 5 * j)), .int (nI v)]).toArray s 0 0 (fun _ => False)) (F0 m 2 ls []) := by
    intro fuel
    induction fuel with
    | zero => intro k hk hq hf; exact absurd hf (Nat.not_lt_zero _)
    | succ fuel ih2 =>
      intro k hk hq hf ls hl
      refine lv_iload_n hx hb dX1_isFirstOfClass_2 rfl (lv_at hl 2 rfl) ?_
      refine lv_iload_n hx hb dX1_isFirstOfClass_3 rfl (lv_at hl 1 rfl) ?_
      refine kn_icmp_ge (tgt := 40) hx hb (by omega) (by omega) dX1_isFirstOfClass_4 (by decide) (fun c1 => ?_) (fun c1 => ?_)
      · skip
        refine lv_iconst (v := nI 1) hx hb dX1_isFirstOfClass_40 (by decide) ?_
        exact W.zret (v := bI true) hx hb hr (bI_narrow _) (fun t9 ht9 hW9 => ⟨_, rfl, (kd_t (fun q h => hq q (by omega))), ht9⟩) (fun _ h => nomatch h) dX1_isFirstOfClass_41
      · skip
        refine lv_iload_n hx hb dX1_isFirstOfClass_7 rfl (lv_at hl 1 rfl) ?_
        refine lv_aload_n hx hb dX1_isFirstOfClass_8 rfl (lv_at hl 0 rfl) ?_
        refine ko_gc hx hb hts hin1 hown hX hj (hts (.fieldLink RX1 19 "Orderlattice$Order" "codes" "[J") (tm 35 (by decide +kernel) rfl)) dX1_isFirstOfClass_9 ?_
        refine ko_nc hx hb hX hj dX1_isFirstOfClass_12 ?_
        refine kn_icmp_ge (tgt := 40) hx hb (by omega) (by omega) dX1_isFirstOfClass_13 (by decide) (fun c2 => absurd c2 (by omega)) (fun c2 => ?_)
        refine lv_aload_n hx hb dX1_isFirstOfClass_16 rfl (lv_at hl 0 rfl) ?_
        refine ko_gc hx hb hts hin1 hown hX hj (hts (.fieldLink RX1 19 "Orderlattice$Order" "codes" "[J") (tm 35 (by decide +kernel) rfl)) dX1_isFirstOfClass_17 ?_
        refine lv_iload_n hx hb dX1_isFirstOfClass_20 rfl (lv_at hl 2 rfl) ?_
        refine ko_lc (v := ((S.2.1 j).2.2.1) k) hx hb hX hj (by omega) rfl dX1_isFirstOfClass_21 ?_
        refine lv_aload_n hx hb dX1_isFirstOfClass_22 rfl (lv_at hl 0 rfl) ?_
        refine ko_gc hx hb hts hin1 hown hX hj (hts (.fieldLink RX1 19 "Orderlattice$Order" "codes" "[J") (tm 35 (by decide +kernel) rfl)) dX1_isFirstOfClass_23 ?_
        refine lv_iload_n hx hb dX1_isFirstOfClass_26 rfl (lv_at hl 1 rfl) ?_
        refine ko_lc (v := ((S.2.1 j).2.2.1) v) hx hb hX hj (by omega) rfl dX1_isFirstOfClass_27 ?_
        have h1 := hc9 k (by omega)
        have h2 := hc9 v hv
        refine kc_lcmp hx hb (by omega) (by omega) dX1_isFirstOfClass_28 ?_
        refine kc_if_ne (tgt := 34) hx hb dX1_isFirstOfClass_29 (by decide) (fun c3 => ?_) (fun c3 => ?_)
        · skip
          have hc := c3
          refine lv_iinc (v := nI (k + 1)) (lv' := [(2, .int (nI (k + 1))), (0, .ref (ad (24 + 5 * j))), (1, .int (nI v))]) hx hb dX1_isFirstOfClass_34 hl (k := 2) rfl (nI_1 k) (by decide) rfl (fun ls hl => ?_)
          refine lv_goto (tgt := 2) hx hb dX1_isFirstOfClass_37 (by decide) ?_
          exact ih2  (k + 1) (by omega) (lt_s hq hc) (by omega) _ (lv_sub hl [1, 2, 0] rfl)
        · skip
          have hc := c3
          refine lv_iconst (v := nI 0) hx hb dX1_isFirstOfClass_32 (by decide) ?_
          exact W.zret (v := bI false) hx hb hr (bI_narrow _) (fun t9 ht9 hW9 => ⟨_, rfl, (kd_f (fun z => z k (by omega) hc)), ht9⟩) (fun _ h => nomatch h) dX1_isFirstOfClass_33
  exact loop2 (v + 1) 0 (by omega) (fun q h => absurd h (Nat.not_lt_zero q)) (by omega) _ (lv_sub hl [1, 2, 0] rfl)
set_option maxHeartbeats 4000000 in
set_option maxRecDepth 100000 in
theorem m_X1_pushBackBehind (l : Launch) (dC : Nat → ClassId) (dI : Nat → Nat → Nat) (ad : Nat → Nat) (S : XS) (j x9 : Nat) (hj : j < 6) (hx9 : x9 < 2 ^ 62) (hc9 : ∀ k, k < 16 → (S.2.1 j).2.2.1 k < 2 ^ 62) (hr9 : ∀ k, k < 16 → (S.2.1 j).2.2.2.1 k < 1000) : Met l yX1_pushBackBehind wsX1_pushBackBehind ({ frames := 0, cells := 0, slots := 0, locals := 0 } : Room) (va_Pc [.ref (ad (24 + 5 * j)), .long (lN x9)] (PX dC dI ad S)) (va_Qv (fun S' => S' = xO S j ((S.2.1 j).1, (S.2.1 j).2.1, (S.2.1 j).2.2.1, ovl (fun v => (S.2.1 j).2.2.2.1 v + (if x9 < (S.2.1 j).2.2.1 v then 1 else 0)) (S.2.1 j).2.2.2.1 16, (S.2.1 j).2.2.2.2.1, (S.2.1 j).2.2.2.2.2)) (PX dC dI ad) (AX ad)) 0 0 (AX ad) := by
  refine Met.ofW (cc := cX1_pushBackBehind) (maxL := 4) (ret := none) pl_X1 rfl ?_
  intro p e s m args below meth c s₁ B hml hv
  obtain ⟨rfl, hPX⟩ := hv
  have hx := B.exec
  have hb := B.bytes
  have hr := B.returns
  have hts := atoms_spec (ws := wsX1_pushBackBehind) B.pre
  have hown : s.vm.findClass RX1 = some m.cls := findClass_of_methodNamed B.named
  have hlocks := B.notSynchronized
  have hin1 : ∀ w ∈ u_ws RX1 TX1 6, w ∈ wsX1_pushBackBehind := tu 1324 (by decide +kernel) rfl
  have hX := WX.of hPX
  have hl := lv_entry ([.ref (ad (24 + 5 * j)), .long (lN x9)]) (n := 4) (Nat.le_of_ble_eq_true rfl)
  rw [lg_entry_eq]
  generalize (lg_sl ([.ref (ad (24 + 5 * j)), .long (lN x9)]) ++ List.replicate (4 - (lg_sl ([.ref (ad (24 + 5 * j)), .long (lN x9)])).length) Slot.unset).toArray = ls at hl ⊢
  have hl : lv_has ls 4 [(0, .ref (ad (24 + 5 * j))), (1, .long (lN x9))] := hl
  show W p l e ({ frames := 0, cells := 0, slots := 0, locals := 0 } : Room) s m ([.ref (ad (24 + 5 * j)), .long (lN x9)]).toArray below meth c s.heap [] 0 0 (MQ below (va_Qv (fun S' => S' = xO S j ((S.2.1 j).1, (S.2.1 j).2.1, (S.2.1 j).2.2.1, ovl (fun v => (S.2.1 j).2.2.2.1 v + (if x9 < (S.2.1 j).2.2.1 v then 1 else 0)) (S.2.1 j).2.2.2.1 16, (S.2.1 j).2.2.2.2.1, (S.2.1 j).2.2.2.2.2)) (PX dC dI ad) (AX ad)) ([.ref (ad (24 + 5 * j)), .long (lN x9)]).toArray s 0 0 (AX ad)) (F0 m 0 ls [])
  refine lv_iconst (v := nI 0) hx hb dX1_pushBackBehind_0 (by decide) ?_
  refine lv_istore_n (lv' := [(3, .int (nI 0)), (0, .ref (ad (24 + 5 * j))), (1, .long (lN x9))]) hx hb dX1_pushBackBehind_1 rfl hl (by decide) rfl (fun ls hl => ?_)
  have loop2 : ∀ (fuel : Nat) (a : Nat) (ha : a ≤ 16) (H : Heap) (locs : List Loc), 16 - a < fuel → WX dC dI ad (xO S j ((S.2.1 j).1, (S.2.1 j).2.1, (S.2.1 j).2.2.1, ovl (fun v => (S.2.1 j).2.2.2.1 v + (if x9 < (S.2.1 j).2.2.1 v then 1 else 0)) (S.2.1 j).2.2.2.1 a, (S.2.1 j).2.2.2.2.1, (S.2.1 j).2.2.2.2.2)) (AX ad) s H locs → ∀ ls : Array Slot, lv_has ls 4 [(0, .ref (ad (24 + 5 * j))), (1, .long (lN x9)), (3, .int (nI a))] → W p l e ({ frames := 0, cells := 0, slots := 0, locals := 0 } : Room) s m ([.ref (ad (24 + 5 * j)), .long (lN x9)]).toArray below meth c H locs 0 0 (MQ below (va_Qv (fun S' => S' = xO S j ((S.2.1 j).1, (S.2.1 j).2.1, (S.2.1 j).2.2.1, ovl (fun v => (S.2.1 j).2.2.2.1 v + (if x9 < (S.2.1 j).2.2.1 v then 1 else 0)) (S.2.1 j).2.2.2.1 16, (S.2.1 j).2.2.2.2.1, (S.2.1 j).2.2.2.2.2)) (PX dC dI ad) (AX ad)) ([.ref (ad (24 + 5 * j)), .long (lN x9)]).toArray s 0 0 (AX ad)) (F0 m 2 ls []) := by
    intro fuel
    induction fuel with
    | zero => intro a ha H locs hf; exact absurd hf (Nat.not_lt_zero _)
    | succ fuel ih2 =>
      intro a ha H locs hf hX ls hl
      refine lv_iload_n hx hb dX1_pushBackBehind_2 rfl (lv_at hl 2 rfl) ?_
      refine lv_aload_n hx hb dX1_pushBackBehind_3 rfl (lv_at hl 0 rfl) ?_
      refine ko_gr hx hb hts hin1 hown hX hj (hts (.fieldLink RX1 23 "Orderlattice$Order" "ranks" "[I") (tm 36 (by decide +kernel) rfl)) dX1_pushBackBehind_4 ?_
      refine ko_nr hx hb hX hj dX1_pushBackBehind_7 ?_
      refine kn_icmp_ge (tgt := 47) hx hb (by omega) (by omega) dX1_pushBackBehind_8 (by decide) (fun c1 => ?_) (fun c1 => ?_)
      · skip
        exact W.vret hx hb hr (fun t9 ht9 hW9 => ⟨⟨(xO S j ((S.2.1 j).1, (S.2.1 j).2.1, (S.2.1 j).2.2.1, ovl (fun v => (S.2.1 j).2.2.2.1 v + (if x9 < (S.2.1 j).2.2.1 v then 1 else 0)) (S.2.1 j).2.2.2.1 a, (S.2.1 j).2.2.2.2.1, (S.2.1 j).2.2.2.2.2)), rfl, (by rw [show a = 16 by omega]), hX.P ht9 hW9⟩, hX.2.2.2.F ht9⟩) hX.2.2.2.2.2 dX1_pushBackBehind_47
      · skip
        refine lv_iload_n hx hb dX1_pushBackBehind_11 rfl (lv_at hl 2 rfl) ?_
        refine lv_aload_n hx hb dX1_pushBackBehind_12 rfl (lv_at hl 0 rfl) ?_
        refine ko_gc hx hb hts hin1 hown hX hj (hts (.fieldLink RX1 19 "Orderlattice$Order" "codes" "[J") (tm 35 (by decide +kernel) rfl)) dX1_pushBackBehind_13 ?_
        refine ko_nc hx hb hX hj dX1_pushBackBehind_16 ?_
        refine kn_icmp_ge (tgt := 47) hx hb (by omega) (by omega) dX1_pushBackBehind_17 (by decide) (fun c2 => absurd c2 (by omega)) (fun c2 => ?_)
        refine lv_lload_n hx hb dX1_pushBackBehind_20 rfl (lv_at hl 1 rfl) ?_
        refine lv_aload_n hx hb dX1_pushBackBehind_21 rfl (lv_at hl 0 rfl) ?_
        refine ko_gc hx hb hts hin1 hown hX hj (hts (.fieldLink RX1 19 "Orderlattice$Order" "codes" "[J") (tm 35 (by decide +kernel) rfl)) dX1_pushBackBehind_22 ?_
        refine lv_iload_n hx hb dX1_pushBackBehind_25 rfl (lv_at hl 2 rfl) ?_
        refine ko_lc (v := ((S.2.1 j).2.2.1) a) hx hb hX hj (by omega) (by rw [xO_ord]) dX1_pushBackBehind_26 ?_
        have h1 := hc9 a (by omega)
        refine kc_lcmp hx hb (by omega) (by omega) dX1_pushBackBehind_27 ?_
        refine kc_if_ge (tgt := 41) hx hb dX1_pushBackBehind_28 (by decide) (fun c3 => ?_) (fun c3 => ?_)
        · skip
          have hc := c3
          refine lv_iinc (v := nI (a + 1)) (lv' := [(3, .int (nI (a + 1))), (0, .ref (ad (24 + 5 * j))), (1, .long (lN x9))]) hx hb dX1_pushBackBehind_41 hl (k := 2) rfl (nI_1 a) (by decide) rfl (fun ls hl => ?_)
          refine lv_goto (tgt := 2) hx hb dX1_pushBackBehind_44 (by decide) ?_
          exact ih2  (a + 1) (by omega) _ _ (by omega) (WX.eqS (by rw [push_f (x9 := x9) (c := (S.2.1 j).2.2.1) (S.2.1 j).2.2.2.1 hc]) hX) _ (lv_sub hl [1, 2, 0] rfl)
        · skip
          have hc := c3
          refine lv_aload_n hx hb dX1_pushBackBehind_31 rfl (lv_at hl 0 rfl) ?_
          refine ko_gr hx hb hts hin1 hown hX hj (hts (.fieldLink RX1 23 "Orderlattice$Order" "ranks" "[I") (tm 36 (by decide +kernel) rfl)) dX1_pushBackBehind_32 ?_
          refine lv_iload_n hx hb dX1_pushBackBehind_35 rfl (lv_at hl 2 rfl) ?_
          refine lv_dup2_11 hx hb dX1_pushBackBehind_36 rfl rfl ?_
          refine ko_lr (v := (ovl (fun v => (S.2.1 j).2.2.2.1 v + (if x9 < (S.2.1 j).2.2.1 v then 1 else 0)) (S.2.1 j).2.2.2.1 a) a) hx hb hX hj (by omega) (by rw [xO_ord]) dX1_pushBackBehind_37 ?_
          refine lv_iconst (v := nI 1) hx hb dX1_pushBackBehind_38 (by decide) ?_
          refine kn_iadd hx hb dX1_pushBackBehind_39 ?_
          refine ko_sr (S' := (xO S j ((S.2.1 j).1, (S.2.1 j).2.1, (S.2.1 j).2.2.1, va_up (ovl (fun v => (S.2.1 j).2.2.2.1 v + (if x9 < (S.2.1 j).2.2.1 v then 1 else 0)) (S.2.1 j).2.2.2.1 a) a ((ovl (fun v => (S.2.1 j).2.2.2.1 v + (if x9 < (S.2.1 j).2.2.1 v then 1 else 0)) (S.2.1 j).2.2.2.1 a) a + 1), (S.2.1 j).2.2.2.2.1, (S.2.1 j).2.2.2.2.2))) hx hb hX hj (by omega) (by rw [xO_ord, xO_xO]) dX1_pushBackBehind_40 (fun H locs hX => ?_)
          refine lv_iinc (v := nI (a + 1)) (lv' := [(3, .int (nI (a + 1))), (0, .ref (ad (24 + 5 * j))), (1, .long (lN x9))]) hx hb dX1_pushBackBehind_41 hl (k := 2) rfl (nI_1 a) (by decide) rfl (fun ls hl => ?_)
          refine lv_goto (tgt := 2) hx hb dX1_pushBackBehind_44 (by decide) ?_
          exact ih2  (a + 1) (by omega) _ _ (by omega) (WX.eqS (by rw [push_t (x9 := x9) (c := (S.2.1 j).2.2.1) (S.2.1 j).2.2.2.1 hc]) hX) _ (lv_sub hl [1, 2, 0] rfl)
  exact loop2 (16 - 0 + 1) 0 (by omega) _ _ (by omega) (WX.eqS (by rw [ovl_0]; exact (xO_self S j).symm) hX) _ (lv_sub hl [1, 2, 0] rfl)
set_option maxHeartbeats 4000000 in
set_option maxRecDepth 100000 in
theorem m_X1_rankAll (l : Launch) (dC : Nat → ClassId) (dI : Nat → Nat → Nat) (ad : Nat → Nat) (S : XS) (j : Nat) (hj : j < 6) (hc9 : ∀ k, k < 16 → (S.2.1 j).2.2.1 k < 2 ^ 62) : Met l yX1_rankAll wsX1_rankAll ({ frames := 1, cells := 0, slots := 0, locals := 23 } : Room) (va_Pc [.ref (ad (24 + 5 * j))] (PX dC dI ad S)) (va_Qv (fun S' => S' = xO S j ((S.2.1 j).1, (S.2.1 j).2.1, (S.2.1 j).2.2.1, ovl (rankC (S.2.1 j).2.2.1) (S.2.1 j).2.2.2.1 16, (S.2.1 j).2.2.2.2.1, classC (S.2.1 j).2.2.1)) (PX dC dI ad) (AX ad)) 0 0 (AX ad) := by
  refine Met.ofW (cc := cX1_rankAll) (maxL := 2) (ret := none) pl_X1 rfl ?_
  intro p e s m args below meth c s₁ B hml hv
  obtain ⟨rfl, hPX⟩ := hv
  have hx := B.exec
  have hb := B.bytes
  have hr := B.returns
  have hts := atoms_spec (ws := wsX1_rankAll) B.pre
  have hown : s.vm.findClass RX1 = some m.cls := findClass_of_methodNamed B.named
  have hlocks := B.notSynchronized
  have hin1 : ∀ w ∈ u_ws RX1 TX1 6, w ∈ wsX1_rankAll := tu 1324 (by decide +kernel) rfl
  have hX := WX.of hPX
  have hl := lv_entry ([.ref (ad (24 + 5 * j))]) (n := 2) (Nat.le_of_ble_eq_true rfl)
  rw [lg_entry_eq]
  generalize (lg_sl ([.ref (ad (24 + 5 * j))]) ++ List.replicate (2 - (lg_sl ([.ref (ad (24 + 5 * j))])).length) Slot.unset).toArray = ls at hl ⊢
  have hl : lv_has ls 2 [(0, .ref (ad (24 + 5 * j)))] := hl
  show W p l e ({ frames := 1, cells := 0, slots := 0, locals := 23 } : Room) s m ([.ref (ad (24 + 5 * j))]).toArray below meth c s.heap [] 0 0 (MQ below (va_Qv (fun S' => S' = xO S j ((S.2.1 j).1, (S.2.1 j).2.1, (S.2.1 j).2.2.1, ovl (rankC (S.2.1 j).2.2.1) (S.2.1 j).2.2.2.1 16, (S.2.1 j).2.2.2.2.1, classC (S.2.1 j).2.2.1)) (PX dC dI ad) (AX ad)) ([.ref (ad (24 + 5 * j))]).toArray s 0 0 (AX ad)) (F0 m 0 ls [])
  refine lv_aload_n hx hb dX1_rankAll_0 rfl (lv_at hl 0 rfl) ?_
  refine lv_iconst (v := nI 0) hx hb dX1_rankAll_1 (by decide) ?_
  refine ko_ps (S' := (xO S j ((S.2.1 j).1, (S.2.1 j).2.1, (S.2.1 j).2.2.1, (S.2.1 j).2.2.2.1, (S.2.1 j).2.2.2.2.1, 0))) hx hb hts hin1 hown hX hj rfl (hts (.fieldLink RX1 30 "Orderlattice$Order" "classes" "I") (tm 38 (by decide +kernel) rfl)) dX1_rankAll_2 (fun H locs hX => ?_)
  refine lv_iconst (v := nI 0) hx hb dX1_rankAll_5 (by decide) ?_
  refine lv_istore_n (lv' := [(1, .int (nI 0)), (0, .ref (ad (24 + 5 * j)))]) hx hb dX1_rankAll_6 rfl hl (by decide) rfl (fun ls hl => ?_)
  have loop7 : ∀ (fuel : Nat) (a : Nat) (ha : a ≤ 16) (H : Heap) (locs : List Loc), 16 - a < fuel → WX dC dI ad (xO S j ((S.2.1 j).1, (S.2.1 j).2.1, (S.2.1 j).2.2.1, ovl (fun _ => 0) (S.2.1 j).2.2.2.1 a, (S.2.1 j).2.2.2.2.1, 0)) (AX ad) s H locs → ∀ ls : Array Slot, lv_has ls 2 [(0, .ref (ad (24 + 5 * j))), (1, .int (nI a))] → W p l e ({ frames := 1, cells := 0, slots := 0, locals := 23 } : Room) s m ([.ref (ad (24 + 5 * j))]).toArray below meth c H locs 0 0 (MQ below (va_Qv (fun S' => S' = xO S j ((S.2.1 j).1, (S.2.1 j).2.1, (S.2.1 j).2.2.1, ovl (rankC (S.2.1 j).2.2.1) (S.2.1 j).2.2.2.1 16, (S.2.1 j).2.2.2.2.1, classC (S.2.1 j).2.2.1)) (PX dC dI ad) (AX ad)) ([.ref (ad (24 + 5 * j))]).toArray s 0 0 (AX ad)) (F0 m 7 ls []) := by
    intro fuel
    induction fuel with
    | zero => intro a ha H locs hf; exact absurd hf (Nat.not_lt_zero _)
    | succ fuel ih7 =>
      intro a ha H locs hf hX ls hl
      refine lv_iload_n hx hb dX1_rankAll_7 rfl (lv_at hl 1 rfl) ?_
      refine lv_aload_n hx hb dX1_rankAll_8 rfl (lv_at hl 0 rfl) ?_
      refine ko_gr hx hb hts hin1 hown hX hj (hts (.fieldLink RX1 23 "Orderlattice$Order" "ranks" "[I") (tm 36 (by decide +kernel) rfl)) dX1_rankAll_9 ?_
      refine ko_nr hx hb hX hj dX1_rankAll_12 ?_
      refine kn_icmp_ge (tgt := 29) hx hb (by omega) (by omega) dX1_rankAll_13 (by decide) (fun c1 => ?_) (fun c1 => ?_)
      · skip
        refine lv_iconst (v := nI 0) hx hb dX1_rankAll_29 (by decide) ?_
        refine lv_istore_n (lv' := [(1, .int (nI 0)), (0, .ref (ad (24 + 5 * j)))]) hx hb dX1_rankAll_30 rfl hl (by decide) rfl (fun ls hl => ?_)
        have loop31 : ∀ (fuel : Nat) (h9 : Nat) (ha : h9 ≤ 16) (H : Heap) (locs : List Loc), 16 - h9 < fuel → WX dC dI ad (xO S j ((S.2.1 j).1, (S.2.1 j).2.1, (S.2.1 j).2.2.1, ovl (rnk (S.2.1 j).2.2.1 h9) (S.2.1 j).2.2.2.1 16, (S.2.1 j).2.2.2.2.1, cntB (headB (S.2.1 j).2.2.1) h9)) (AX ad) s H locs → ∀ ls : Array Slot, lv_has ls 2 [(0, .ref (ad (24 + 5 * j))), (1, .int (nI h9))] → W p l e ({ frames := 1, cells := 0, slots := 0, locals := 23 } : Room) s m ([.ref (ad (24 + 5 * j))]).toArray below meth c H locs 0 0 (MQ below (va_Qv (fun S' => S' = xO S j ((S.2.1 j).1, (S.2.1 j).2.1, (S.2.1 j).2.2.1, ovl (rankC (S.2.1 j).2.2.1) (S.2.1 j).2.2.2.1 16, (S.2.1 j).2.2.2.2.1, classC (S.2.1 j).2.2.1)) (PX dC dI ad) (AX ad)) ([.ref (ad (24 + 5 * j))]).toArray s 0 0 (AX ad)) (F0 m 31 ls []) := by
          intro fuel
          induction fuel with
          | zero => intro h9 ha H locs hf; exact absurd hf (Nat.not_lt_zero _)
          | succ fuel ih31 =>
            intro h9 ha H locs hf hX ls hl
            refine lv_iload_n hx hb dX1_rankAll_31 rfl (lv_at hl 1 rfl) ?_
            refine lv_aload_n hx hb dX1_rankAll_32 rfl (lv_at hl 0 rfl) ?_
            refine ko_gc hx hb hts hin1 hown hX hj (hts (.fieldLink RX1 19 "Orderlattice$Order" "codes" "[J") (tm 35 (by decide +kernel) rfl)) dX1_rankAll_33 ?_
            refine ko_nc hx hb hX hj dX1_rankAll_36 ?_
            refine kn_icmp_ge (tgt := 74) hx hb (by omega) (by omega) dX1_rankAll_37 (by decide) (fun c2 => ?_) (fun c2 => ?_)
            · skip
              exact W.vret hx hb hr (fun t9 ht9 hW9 => ⟨⟨(xO S j ((S.2.1 j).1, (S.2.1 j).2.1, (S.2.1 j).2.2.1, ovl (rnk (S.2.1 j).2.2.1 h9) (S.2.1 j).2.2.2.1 16, (S.2.1 j).2.2.2.2.1, cntB (headB (S.2.1 j).2.2.1) h9)), rfl, (by rw [show h9 = 16 by omega]; rfl), hX.P ht9 hW9⟩, hX.2.2.2.F ht9⟩) hX.2.2.2.2.2 dX1_rankAll_74
            · skip
              refine lv_aload_n hx hb dX1_rankAll_40 rfl (lv_at hl 0 rfl) ?_
              refine lv_iload_n hx hb dX1_rankAll_41 rfl (lv_at hl 1 rfl) ?_
              refine kx_cr (v := bI (headB ((S.2.1 j).2.2.1) h9)) (va_runV (As := [.int (nI h9)]) (rest := []) ⟨hx, hb, hml, hown, hts⟩ (m_X1_isFirstOfClass l dC dI ad (xO S j ((S.2.1 j).1, (S.2.1 j).2.1, (S.2.1 j).2.2.1, ovl (rnk (S.2.1 j).2.2.1 h9) (S.2.1 j).2.2.2.1 16, (S.2.1 j).2.2.2.2.1, cntB (headB (S.2.1 j).2.2.1) h9)) j h9 hj (by omega) (by rw [xO_ord]; exact hc9)) (cwV 1 hts gX1_rankAll_X1_isFirstOfClass rfl rfl rfl hdX1_isFirstOfClass_1 ⟨Nat.le_of_ble_eq_true rfl, Nat.le_of_ble_eq_true rfl⟩) (hX.preOrd hj) rfl rfl hl.1 rfl (lv_room (Nat.le_of_ble_eq_true rfl)) dX1_rankAll_42 ⟨Nat.le_of_ble_eq_true rfl, Nat.le_of_ble_eq_true rfl⟩) (fun _ h => by rw [h, xO_ord]) ?_
              refine kb_if_eq (tgt := 68) hx hb dX1_rankAll_45 (by decide) (fun c3 => ?_) (fun c3 => ?_)
              · skip
                have hc := c3
                refine lv_iinc (v := nI (h9 + 1)) (lv' := [(1, .int (nI (h9 + 1))), (0, .ref (ad (24 + 5 * j)))]) hx hb dX1_rankAll_68 hl (k := 1) rfl (nI_1 h9) (by decide) rfl (fun ls hl => ?_)
                refine lv_goto (tgt := 31) hx hb dX1_rankAll_71 (by decide) ?_
                exact ih31  (h9 + 1) (by omega) _ _ (by omega) (WX.eqS (by rw [cntB_f hc, rnk_not hc]) hX) _ (lv_sub hl [1, 0] rfl)
              · skip
                have hc := c3
                refine lv_aload_n hx hb dX1_rankAll_48 rfl (lv_at hl 0 rfl) ?_
                refine lv_dup hx hb dX1_rankAll_49 rfl ?_
                refine ko_gs (n := cntB (headB (S.2.1 j).2.2.1) h9) hx hb hts hin1 hown hX hj (by rw [xO_ord]) (hts (.fieldLink RX1 30 "Orderlattice$Order" "classes" "I") (tm 38 (by decide +kernel) rfl)) dX1_rankAll_50 ?_
                refine lv_iconst (v := nI 1) hx hb dX1_rankAll_53 (by decide) ?_
                refine kn_iadd hx hb dX1_rankAll_54 ?_
                refine ko_ps (S' := (xO S j ((S.2.1 j).1, (S.2.1 j).2.1, (S.2.1 j).2.2.1, ovl (rnk (S.2.1 j).2.2.1 h9) (S.2.1 j).2.2.2.1 16, (S.2.1 j).2.2.2.2.1, cntB (headB (S.2.1 j).2.2.1) h9 + 1))) hx hb hts hin1 hown hX hj (by rw [xO_ord, xO_xO]) (hts (.fieldLink RX1 30 "Orderlattice$Order" "classes" "I") (tm 38 (by decide +kernel) rfl)) dX1_rankAll_55 (fun H locs hX => ?_)
                refine lv_aload_n hx hb dX1_rankAll_58 rfl (lv_at hl 0 rfl) ?_
                refine lv_aload_n hx hb dX1_rankAll_59 rfl (lv_at hl 0 rfl) ?_
                refine ko_gc hx hb hts hin1 hown hX hj (hts (.fieldLink RX1 19 "Orderlattice$Order" "codes" "[J") (tm 35 (by decide +kernel) rfl)) dX1_rankAll_60 ?_
                refine lv_iload_n hx hb dX1_rankAll_63 rfl (lv_at hl 1 rfl) ?_
                refine ko_lc (v := ((S.2.1 j).2.2.1) h9) hx hb hX hj (by omega) (by rw [xO_ord]) dX1_rankAll_64 ?_
                refine kx_cv (va_runV (As := [.long (lN (((S.2.1 j).2.2.1) h9))]) (rest := []) ⟨hx, hb, hml, hown, hts⟩ (m_X1_pushBackBehind l dC dI ad (xO S j ((S.2.1 j).1, (S.2.1 j).2.1, (S.2.1 j).2.2.1, ovl (rnk (S.2.1 j).2.2.1 h9) (S.2.1 j).2.2.2.1 16, (S.2.1 j).2.2.2.2.1, cntB (headB (S.2.1 j).2.2.1) h9 + 1)) j (((S.2.1 j).2.2.1) h9) hj (hc9 _ (by omega)) (by rw [xO_ord]; exact hc9) (by rw [xO_ord]; exact fun k hk => by dsimp only; rw [ovl_in hk]; have := rnk_le (S.2.1 j).2.2.1 h9 k; omega)) (cwV 1 hts gX1_rankAll_X1_pushBackBehind rfl rfl rfl hdX1_pushBackBehind_1 ⟨Nat.le_of_ble_eq_true rfl, Nat.le_of_ble_eq_true rfl⟩) (hX.preOrd hj) rfl rfl hl.1 rfl (lv_room (Nat.le_of_ble_eq_true rfl)) dX1_rankAll_65 ⟨Nat.le_of_ble_eq_true rfl, Nat.le_of_ble_eq_true rfl⟩) hX (fun _ h => h) (fun S_ H locs hw hX => ?_)
                rw [xO_ord, xO_xO] at hw
                dsimp only at hw
                rw [rnk_push hc] at hw
                subst hw
                refine lv_iinc (v := nI (h9 + 1)) (lv' := [(1, .int (nI (h9 + 1))), (0, .ref (ad (24 + 5 * j)))]) hx hb dX1_rankAll_68 hl (k := 1) rfl (nI_1 h9) (by decide) rfl (fun ls hl => ?_)
                refine lv_goto (tgt := 31) hx hb dX1_rankAll_71 (by decide) ?_
                exact ih31  (h9 + 1) (by omega) _ _ (by omega) (WX.eqS (by rw [cntB_t hc]) hX) _ (lv_sub hl [1, 0] rfl)
        exact loop31 (16 - 0 + 1) 0 (by omega) _ _ (by omega) (WX.eqS (by rw [show a = 16 by omega]; rfl) hX) _ (lv_sub hl [1, 0] rfl)
      · skip
        refine lv_aload_n hx hb dX1_rankAll_16 rfl (lv_at hl 0 rfl) ?_
        refine ko_gr hx hb hts hin1 hown hX hj (hts (.fieldLink RX1 23 "Orderlattice$Order" "ranks" "[I") (tm 36 (by decide +kernel) rfl)) dX1_rankAll_17 ?_
        refine lv_iload_n hx hb dX1_rankAll_20 rfl (lv_at hl 1 rfl) ?_
        refine lv_iconst (v := nI 0) hx hb dX1_rankAll_21 (by decide) ?_
        refine ko_sr (S' := (xO S j ((S.2.1 j).1, (S.2.1 j).2.1, (S.2.1 j).2.2.1, va_up (ovl (fun _ => 0) (S.2.1 j).2.2.2.1 a) a 0, (S.2.1 j).2.2.2.2.1, 0))) hx hb hX hj (by omega) (by rw [xO_ord, xO_xO]) dX1_rankAll_22 (fun H locs hX => ?_)
        refine lv_iinc (v := nI (a + 1)) (lv' := [(1, .int (nI (a + 1))), (0, .ref (ad (24 + 5 * j)))]) hx hb dX1_rankAll_23 hl (k := 1) rfl (nI_1 a) (by decide) rfl (fun ls hl => ?_)
        refine lv_goto (tgt := 7) hx hb dX1_rankAll_26 (by decide) ?_
        exact ih7  (a + 1) (by omega) _ _ (by omega) (WX.eqS (by rw [ovl_up (fun _ => 0)]) hX) _ (lv_sub hl [1, 0] rfl)
  exact loop7 (16 - 0 + 1) 0 (by omega) _ _ (by omega) (WX.eqS (by rw [ovl_0]) hX) _ (lv_sub hl [1, 0] rfl)
end
section
theorem bc_tab : ∀ v, v < 16 → ((((((((nI v) - (((nI v).toUInt32 >>> ((nI 1).toUInt32 &&& Int32.toUInt32 31)).toInt32 &&& 1431655765)) &&& 858993459) + ((((nI v) - (((nI v).toUInt32 >>> ((nI 1).toUInt32 &&& Int32.toUInt32 31)).toInt32 &&& 1431655765)).toUInt32 >>> ((nI 2).toUInt32 &&& Int32.toUInt32 31)).toInt32 &&& 858993459)) + (((((nI v) - (((nI v).toUInt32 >>> ((nI 1).toUInt32 &&& Int32.toUInt32 31)).toInt32 &&& 1431655765)) &&& 858993459) + ((((nI v) - (((nI v).toUInt32 >>> ((nI 1).toUInt32 &&& Int32.toUInt32 31)).toInt32 &&& 1431655765)).toUInt32 >>> ((nI 2).toUInt32 &&& Int32.toUInt32 31)).toInt32 &&& 858993459)).toUInt32 >>> ((nI 4).toUInt32 &&& Int32.toUInt32 31)).toInt32) &&& 252645135) + (((((((nI v) - (((nI v).toUInt32 >>> ((nI 1).toUInt32 &&& Int32.toUInt32 31)).toInt32 &&& 1431655765)) &&& 858993459) + ((((nI v) - (((nI v).toUInt32 >>> ((nI 1).toUInt32 &&& Int32.toUInt32 31)).toInt32 &&& 1431655765)).toUInt32 >>> ((nI 2).toUInt32 &&& Int32.toUInt32 31)).toInt32 &&& 858993459)) + (((((nI v) - (((nI v).toUInt32 >>> ((nI 1).toUInt32 &&& Int32.toUInt32 31)).toInt32 &&& 1431655765)) &&& 858993459) + ((((nI v) - (((nI v).toUInt32 >>> ((nI 1).toUInt32 &&& Int32.toUInt32 31)).toInt32 &&& 1431655765)).toUInt32 >>> ((nI 2).toUInt32 &&& Int32.toUInt32 31)).toInt32 &&& 858993459)).toUInt32 >>> ((nI 4).toUInt32 &&& Int32.toUInt32 31)).toInt32) &&& 252645135).toUInt32 >>> ((nI 8).toUInt32 &&& Int32.toUInt32 31)).toInt32) + ((((((((nI v) - (((nI v).toUInt32 >>> ((nI 1).toUInt32 &&& Int32.toUInt32 31)).toInt32 &&& 1431655765)) &&& 858993459) + ((((nI v) - (((nI v).toUInt32 >>> ((nI 1).toUInt32 &&& Int32.toUInt32 31)).toInt32 &&& 1431655765)).toUInt32 >>> ((nI 2).toUInt32 &&& Int32.toUInt32 31)).toInt32 &&& 858993459)) + (((((nI v) - (((nI v).toUInt32 >>> ((nI 1).toUInt32 &&& Int32.toUInt32 31)).toInt32 &&& 1431655765)) &&& 858993459) + ((((nI v) - (((nI v).toUInt32 >>> ((nI 1).toUInt32 &&& Int32.toUInt32 31)).toInt32 &&& 1431655765)).toUInt32 >>> ((nI 2).toUInt32 &&& Int32.toUInt32 31)).toInt32 &&& 858993459)).toUInt32 >>> ((nI 4).toUInt32 &&& Int32.toUInt32 31)).toInt32) &&& 252645135) + (((((((nI v) - (((nI v).toUInt32 >>> ((nI 1).toUInt32 &&& Int32.toUInt32 31)).toInt32 &&& 1431655765)) &&& 858993459) + ((((nI v) - (((nI v).toUInt32 >>> ((nI 1).toUInt32 &&& Int32.toUInt32 31)).toInt32 &&& 1431655765)).toUInt32 >>> ((nI 2).toUInt32 &&& Int32.toUInt32 31)).toInt32 &&& 858993459)) + (((((nI v) - (((nI v).toUInt32 >>> ((nI 1).toUInt32 &&& Int32.toUInt32 31)).toInt32 &&& 1431655765)) &&& 858993459) + ((((nI v) - (((nI v).toUInt32 >>> ((nI 1).toUInt32 &&& Int32.toUInt32 31)).toInt32 &&& 1431655765)).toUInt32 >>> ((nI 2).toUInt32 &&& Int32.toUInt32 31)).toInt32 &&& 858993459)).toUInt32 >>> ((nI 4).toUInt32 &&& Int32.toUInt32 31)).toInt32) &&& 252645135).toUInt32 >>> ((nI 8).toUInt32 &&& Int32.toUInt32 31)).toInt32).toUInt32 >>> ((nI 16).toUInt32 &&& Int32.toUInt32 31)).toInt32) &&& (nI 63) = nI (numK 6 v) := by decide +kernel
theorem head_ovl {c d : Nat → Nat} {h : Nat} (hh : h < 16) : headB (ovl c d 16) h = headB c h := by
  unfold headB
  congr 1
  rw [ovl_in hh]
  apply propext
  exact ⟨fun q k hk => by have := q k hk; rw [ovl_in (by omega)] at this; exact this, fun q k hk => by rw [ovl_in (by omega)]; exact q k hk⟩
theorem class_ovl (c d : Nat → Nat) : classC (ovl c d 16) = classC c := cntB_cong (fun _ hk => head_ovl hk)
theorem rank_ovl (c d r : Nat → Nat) : ovl (rankC (ovl c d 16)) r 16 = ovl (rankC c) r 16 := by
  funext v
  unfold ovl
  by_cases hv : v < 16
  · rw [if_pos hv, if_pos hv]
    refine cntB_cong (fun k hk => ?_)
    show (headB (ovl c d 16) k && decide (ovl c d 16 k < ovl c d 16 v)) = _
    rw [head_ovl hk, ovl_in hk, ovl_in hv]
  · rw [if_neg hv, if_neg hv]
/-- an order made anew of steps -/
abbrev newO (K : Nat → Nat) (D : Nat → Bool) (n : Nat) (c r : Nat → Nat) : OrdS := (K, D, ovl (codeOf K D n) c 16, ovl (rankC (codeOf K D n)) r 16, n, classC (codeOf K D n))
theorem newO_ok {K : Nat → Nat} {D : Nat → Bool} {n : Nat} {c r : Nat → Nat} (h : n ≤ 10 ∧ ∀ k, k < 10 → K k < 8) : ordOK (newO K D n c r) :=
  ⟨h, fun _ hv => ovl_in hv, fun _ hv => ovl_in hv, rfl⟩
theorem stepOK_up {o : OrdS} (h : stepOK o) (hn : o.2.2.2.2.1 < 10) {k : Nat} (hk : k < 8) {D : Nat → Bool} {c r : Nat → Nat} {cl : Nat} : stepOK (va_up o.1 o.2.2.2.2.1 k, D, c, r, o.2.2.2.2.1 + 1, cl) :=
  ⟨hn, fun q hq => by
    show va_up o.1 o.2.2.2.2.1 k q < 8
    unfold va_up
    split
    · exact hk
    · exact h.2 q hq⟩
theorem stepOK_apn0 {o o2 : OrdS} (h : stepOK o) (h2 : stepOK o2) {D : Nat → Bool} {c r : Nat → Nat} {cl : Nat} : stepOK (apn o.1 o2.1 0 o2.2.2.2.2.1, D, c, r, o2.2.2.2.2.1, cl) :=
  ⟨h2.1, fun q hq => by
    show apn o.1 o2.1 0 o2.2.2.2.2.1 q < 8
    unfold apn
    split
    · exact h2.2 _ (by omega)
    · exact h.2 q hq⟩
theorem stepOK_apn2 {o o2 o3 : OrdS} (h : stepOK o) (h2 : stepOK o2) (h3 : stepOK o3) (hn : o2.2.2.2.2.1 + o3.2.2.2.2.1 ≤ 10) {D : Nat → Bool} {c r : Nat → Nat} {cl : Nat} : stepOK (apn (apn o.1 o2.1 0 o2.2.2.2.2.1) o3.1 o2.2.2.2.2.1 o3.2.2.2.2.1, D, c, r, o2.2.2.2.2.1 + o3.2.2.2.2.1, cl) :=
  ⟨hn, fun q hq => by
    show apn (apn o.1 o2.1 0 o2.2.2.2.2.1) o3.1 o2.2.2.2.2.1 o3.2.2.2.2.1 q < 8
    unfold apn
    split
    · exact h3.2 _ (by omega)
    · split
      · exact h2.2 _ (by omega)
      · exact h.2 q hq⟩
theorem xO_src1 (S : XS) (j t : Nat) (D : Nat → Bool) (x : (Nat → Nat) × (Nat → Nat) × Nat × Nat) : ((xO S j ((S.2.1 j).1, D, x)).2.1 t).1 = (S.2.1 t).1 := by
  by_cases h : t = j
  · subst h; rw [xO_ord]
  · rw [xO_ne _ _ h]
theorem xO_src2 (S : XS) (j t : Nat) (K : Nat → Nat) (x : (Nat → Nat) × (Nat → Nat) × Nat × Nat) : ((xO S j (K, (S.2.1 j).2.1, x)).2.1 t).2.1 = (S.2.1 t).2.1 := by
  by_cases h : t = j
  · subst h; rw [xO_ord]
  · rw [xO_ne _ _ h]
set_option maxHeartbeats 4000000 in
set_option maxRecDepth 100000 in
theorem m_J6_bitCount (l : Launch) (dC : Nat → ClassId) (dI : Nat → Nat → Nat) (ad : Nat → Nat) (S : XS) (v : Nat) (hv : v < 16) : Met l yJ6_bitCount_0f7a4 wsJ6_bitCount_0f7a4 ({ frames := 0, cells := 0, slots := 0, locals := 0 } : Room) (va_Pc [.int (nI v)] (PX dC dI ad S)) (vp_Si (fun r => r = nI (numK 6 v))) 0 0 (fun _ => False) := by
  refine Met.ofW (cc := cJ6_bitCount_0f7a4) (maxL := 1) (ret := (some .int)) (by decide) rfl ?_
  intro p e s m args below meth c s₁ B hml hv
  obtain ⟨rfl, hPX⟩ := hv
  have hx := B.exec
  have hb := B.bytes
  have hr := B.returns
  have hts := atoms_spec (ws := wsJ6_bitCount_0f7a4) B.pre
  have hown : s.vm.findClass RJ6 = some m.cls := findClass_of_methodNamed B.named
  have hlocks := B.notSynchronized
  have hX := WX.of hPX
  have hl := lv_entry ([.int (nI v)]) (n := 1) (Nat.le_of_ble_eq_true rfl)
  rw [lg_entry_eq]
  generalize (lg_sl ([.int (nI v)]) ++ List.replicate (1 - (lg_sl ([.int (nI v)])).length) Slot.unset).toArray = ls at hl ⊢
  have hl : lv_has ls 1 [(0, .int (nI v))] := hl
  show W p l e ({ frames := 0, cells := 0, slots := 0, locals := 0 } : Room) s m ([.int (nI v)]).toArray below meth c s.heap [] 0 0 (MQ below (vp_Si (fun r => r = nI (numK 6 v))) ([.int (nI v)]).toArray s 0 0 (fun _ => False)) (F0 m 0 ls [])
  refine lv_iload_n hx hb dJ6_bitCount_0f7a4_0 rfl (lv_at hl 0 rfl) ?_
  refine lv_iload_n hx hb dJ6_bitCount_0f7a4_1 rfl (lv_at hl 0 rfl) ?_
  refine lv_iconst (v := nI 1) hx hb dJ6_bitCount_0f7a4_2 (by decide) ?_
  refine lv_iushr (v := ((nI v).toUInt32 >>> ((nI 1).toUInt32 &&& Int32.toUInt32 31)).toInt32) hx hb dJ6_bitCount_0f7a4_3 rfl ?_
  refine lv_ldcw (v := 1431655765) hx hb hown (hts (.constant RJ6 265 1431655765) (tm 47 (by decide +kernel) rfl)) dJ6_bitCount_0f7a4_4 ?_
  refine lv_iand hx hb dJ6_bitCount_0f7a4_7 ?_
  refine lv_isub hx hb dJ6_bitCount_0f7a4_8 ?_
  refine lv_topi (fun x1 e_x1 => ?_)
  refine lv_istore_n (lv' := [(0, .int x1)]) hx hb dJ6_bitCount_0f7a4_9 rfl hl (by decide) rfl (fun ls hl => ?_)
  refine lv_iload_n hx hb dJ6_bitCount_0f7a4_10 rfl (lv_at hl 0 rfl) ?_
  refine lv_ldcw (v := 858993459) hx hb hown (hts (.constant RJ6 266 858993459) (tm 48 (by decide +kernel) rfl)) dJ6_bitCount_0f7a4_11 ?_
  refine lv_iand hx hb dJ6_bitCount_0f7a4_14 ?_
  refine lv_iload_n hx hb dJ6_bitCount_0f7a4_15 rfl (lv_at hl 0 rfl) ?_
  refine lv_iconst (v := nI 2) hx hb dJ6_bitCount_0f7a4_16 (by decide) ?_
  refine lv_iushr (v := (x1.toUInt32 >>> ((nI 2).toUInt32 &&& Int32.toUInt32 31)).toInt32) hx hb dJ6_bitCount_0f7a4_17 rfl ?_
  refine lv_ldcw (v := 858993459) hx hb hown (hts (.constant RJ6 266 858993459) (tm 48 (by decide +kernel) rfl)) dJ6_bitCount_0f7a4_18 ?_
  refine lv_iand hx hb dJ6_bitCount_0f7a4_21 ?_
  refine lv_iadd hx hb dJ6_bitCount_0f7a4_22 ?_
  refine lv_topi (fun x2 e_x2 => ?_)
  refine lv_istore_n (lv' := [(0, .int x2)]) hx hb dJ6_bitCount_0f7a4_23 rfl hl (by decide) rfl (fun ls hl => ?_)
  refine lv_iload_n hx hb dJ6_bitCount_0f7a4_24 rfl (lv_at hl 0 rfl) ?_
  refine lv_iload_n hx hb dJ6_bitCount_0f7a4_25 rfl (lv_at hl 0 rfl) ?_
  refine lv_iconst (v := nI 4) hx hb dJ6_bitCount_0f7a4_26 (by decide) ?_
  refine lv_iushr (v := (x2.toUInt32 >>> ((nI 4).toUInt32 &&& Int32.toUInt32 31)).toInt32) hx hb dJ6_bitCount_0f7a4_27 rfl ?_
  refine lv_iadd hx hb dJ6_bitCount_0f7a4_28 ?_
  refine lv_ldcw (v := 252645135) hx hb hown (hts (.constant RJ6 267 252645135) (tm 49 (by decide +kernel) rfl)) dJ6_bitCount_0f7a4_29 ?_
  refine lv_iand hx hb dJ6_bitCount_0f7a4_32 ?_
  refine lv_topi (fun x3 e_x3 => ?_)
  refine lv_istore_n (lv' := [(0, .int x3)]) hx hb dJ6_bitCount_0f7a4_33 rfl hl (by decide) rfl (fun ls hl => ?_)
  refine lv_iload_n hx hb dJ6_bitCount_0f7a4_34 rfl (lv_at hl 0 rfl) ?_
  refine lv_iload_n hx hb dJ6_bitCount_0f7a4_35 rfl (lv_at hl 0 rfl) ?_
  refine lv_bipush (v := nI 8) hx hb dJ6_bitCount_0f7a4_36 (by decide) ?_
  refine lv_iushr (v := (x3.toUInt32 >>> ((nI 8).toUInt32 &&& Int32.toUInt32 31)).toInt32) hx hb dJ6_bitCount_0f7a4_38 rfl ?_
  refine lv_iadd hx hb dJ6_bitCount_0f7a4_39 ?_
  refine lv_topi (fun x4 e_x4 => ?_)
  refine lv_istore_n (lv' := [(0, .int x4)]) hx hb dJ6_bitCount_0f7a4_40 rfl hl (by decide) rfl (fun ls hl => ?_)
  refine lv_iload_n hx hb dJ6_bitCount_0f7a4_41 rfl (lv_at hl 0 rfl) ?_
  refine lv_iload_n hx hb dJ6_bitCount_0f7a4_42 rfl (lv_at hl 0 rfl) ?_
  refine lv_bipush (v := nI 16) hx hb dJ6_bitCount_0f7a4_43 (by decide) ?_
  refine lv_iushr (v := (x4.toUInt32 >>> ((nI 16).toUInt32 &&& Int32.toUInt32 31)).toInt32) hx hb dJ6_bitCount_0f7a4_45 rfl ?_
  refine lv_iadd hx hb dJ6_bitCount_0f7a4_46 ?_
  refine lv_topi (fun x5 e_x5 => ?_)
  refine lv_istore_n (lv' := [(0, .int x5)]) hx hb dJ6_bitCount_0f7a4_47 rfl hl (by decide) rfl (fun ls hl => ?_)
  refine lv_iload_n hx hb dJ6_bitCount_0f7a4_48 rfl (lv_at hl 0 rfl) ?_
  refine lv_bipush (v := nI 63) hx hb dJ6_bitCount_0f7a4_49 (by decide) ?_
  refine lv_iand hx hb dJ6_bitCount_0f7a4_51 ?_
  exact W.iret (v := (x5 &&& (nI 63))) hx hb hr (fun t9 ht9 hW9 => ⟨_, rfl, (by subst e_x5; subst e_x4; subst e_x3; subst e_x2; subst e_x1; exact bc_tab v hv), ht9⟩) (fun _ h => nomatch h) dJ6_bitCount_0f7a4_52
set_option maxHeartbeats 4000000 in
set_option maxRecDepth 100000 in
theorem m_X1_numberBy (l : Launch) (dC : Nat → ClassId) (dI : Nat → Nat → Nat) (ad : Nat → Nat) (S : XS) (k v : Nat) (hk : k < 8) (hv : v < 16) : Met l yX1_numberBy wsX1_numberBy ({ frames := 1, cells := 0, slots := 0, locals := 20 } : Room) (va_Pc [.int (nI k), .int (nI v)] (PX dC dI ad S)) (vp_Si (fun r => r = nI (numK k v))) 0 0 (fun _ => False) := by
  refine Met.ofW (cc := cX1_numberBy) (maxL := 2) (ret := (some .int)) pl_X1 rfl ?_
  intro p e s m args below meth c s₁ B hml hv
  obtain ⟨rfl, hPX⟩ := hv
  have hx := B.exec
  have hb := B.bytes
  have hr := B.returns
  have hts := atoms_spec (ws := wsX1_numberBy) B.pre
  have hown : s.vm.findClass RX1 = some m.cls := findClass_of_methodNamed B.named
  have hlocks := B.notSynchronized
  have hX := WX.of hPX
  have hl := lv_entry ([.int (nI k), .int (nI v)]) (n := 2) (Nat.le_of_ble_eq_true rfl)
  rw [lg_entry_eq]
  generalize (lg_sl ([.int (nI k), .int (nI v)]) ++ List.replicate (2 - (lg_sl ([.int (nI k), .int (nI v)])).length) Slot.unset).toArray = ls at hl ⊢
  have hl : lv_has ls 2 [(0, .int (nI k)), (1, .int (nI v))] := hl
  show W p l e ({ frames := 1, cells := 0, slots := 0, locals := 20 } : Room) s m ([.int (nI k), .int (nI v)]).toArray below meth c s.heap [] 0 0 (MQ below (vp_Si (fun r => r = nI (numK k v))) ([.int (nI k), .int (nI v)]).toArray s 0 0 (fun _ => False)) (F0 m 0 ls [])
  rcases (show k = 0 ∨ k = 1 ∨ k = 2 ∨ k = 3 ∨ k = 4 ∨ k = 5 ∨ k = 6 ∨ k = 7 by omega) with rfl | rfl | rfl | rfl | rfl | rfl | rfl | rfl
  · skip
    have hl : lv_has ls 2 [(0, .int (nI 0)), (1, .int (nI v))] := hl
    refine lv_iload_n hx hb dX1_numberBy_0 rfl (lv_at hl 0 rfl) ?_
    refine lv_tableIn (x := nI 0) (off := 43) (tgt := 44) hx hb dX1_numberBy_1 (by decide) (by decide) (by decide) (by decide) ?_
    refine lv_iload_n hx hb dX1_numberBy_44 rfl (lv_at hl 1 rfl) ?_
    exact W.iret (v := nI v) hx hb hr (fun t9 ht9 hW9 => ⟨_, rfl, rfl, ht9⟩) (fun _ h => nomatch h) dX1_numberBy_45
  · skip
    have hl : lv_has ls 2 [(0, .int (nI 1)), (1, .int (nI v))] := hl
    refine lv_iload_n hx hb dX1_numberBy_0 rfl (lv_at hl 0 rfl) ?_
    refine lv_tableIn (x := nI 1) (off := 45) (tgt := 46) hx hb dX1_numberBy_1 (by decide) (by decide) (by decide) (by decide) ?_
    refine lv_iload_n hx hb dX1_numberBy_46 rfl (lv_at hl 1 rfl) ?_
    refine lv_iconst (v := nI 4) hx hb dX1_numberBy_47 (by decide) ?_
    refine kn_idiv hx hb (by omega) (by omega) (by omega) dX1_numberBy_48 ?_
    exact W.iret (v := nI (v / 4)) hx hb hr (fun t9 ht9 hW9 => ⟨_, rfl, rfl, ht9⟩) (fun _ h => nomatch h) dX1_numberBy_49
  · skip
    have hl : lv_has ls 2 [(0, .int (nI 2)), (1, .int (nI v))] := hl
    refine lv_iload_n hx hb dX1_numberBy_0 rfl (lv_at hl 0 rfl) ?_
    refine lv_tableIn (x := nI 2) (off := 49) (tgt := 50) hx hb dX1_numberBy_1 (by decide) (by decide) (by decide) (by decide) ?_
    refine lv_iload_n hx hb dX1_numberBy_50 rfl (lv_at hl 1 rfl) ?_
    refine lv_iconst (v := nI 4) hx hb dX1_numberBy_51 (by decide) ?_
    refine kn_irem hx hb (by omega) (by omega) (by omega) dX1_numberBy_52 ?_
    exact W.iret (v := nI (v % 4)) hx hb hr (fun t9 ht9 hW9 => ⟨_, rfl, rfl, ht9⟩) (fun _ h => nomatch h) dX1_numberBy_53
  · skip
    have hl : lv_has ls 2 [(0, .int (nI 3)), (1, .int (nI v))] := hl
    refine lv_iload_n hx hb dX1_numberBy_0 rfl (lv_at hl 0 rfl) ?_
    refine lv_tableIn (x := nI 3) (off := 53) (tgt := 54) hx hb dX1_numberBy_1 (by decide) (by decide) (by decide) (by decide) ?_
    refine lv_iload_n hx hb dX1_numberBy_54 rfl (lv_at hl 1 rfl) ?_
    refine lv_iconst (v := nI 2) hx hb dX1_numberBy_55 (by decide) ?_
    refine kn_irem hx hb (by omega) (by omega) (by omega) dX1_numberBy_56 ?_
    exact W.iret (v := nI (v % 2)) hx hb hr (fun t9 ht9 hW9 => ⟨_, rfl, rfl, ht9⟩) (fun _ h => nomatch h) dX1_numberBy_57
  · skip
    have hl : lv_has ls 2 [(0, .int (nI 4)), (1, .int (nI v))] := hl
    refine lv_iload_n hx hb dX1_numberBy_0 rfl (lv_at hl 0 rfl) ?_
    refine lv_tableIn (x := nI 4) (off := 57) (tgt := 58) hx hb dX1_numberBy_1 (by decide) (by decide) (by decide) (by decide) ?_
    refine lv_iload_n hx hb dX1_numberBy_58 rfl (lv_at hl 1 rfl) ?_
    refine lv_iconst (v := nI 3) hx hb dX1_numberBy_59 (by decide) ?_
    refine kn_irem hx hb (by omega) (by omega) (by omega) dX1_numberBy_60 ?_
    exact W.iret (v := nI (v % 3)) hx hb hr (fun t9 ht9 hW9 => ⟨_, rfl, rfl, ht9⟩) (fun _ h => nomatch h) dX1_numberBy_61
  · skip
    have hl : lv_has ls 2 [(0, .int (nI 5)), (1, .int (nI v))] := hl
    refine lv_iload_n hx hb dX1_numberBy_0 rfl (lv_at hl 0 rfl) ?_
    refine lv_tableIn (x := nI 5) (off := 61) (tgt := 62) hx hb dX1_numberBy_1 (by decide) (by decide) (by decide) (by decide) ?_
    refine lv_iload_n hx hb dX1_numberBy_62 rfl (lv_at hl 1 rfl) ?_
    refine lv_bipush (v := nI 8) hx hb dX1_numberBy_63 (by decide) ?_
    refine kn_icmp_ge (tgt := 75) hx hb (by omega) (by omega) dX1_numberBy_65 (by decide) (fun c1 => ?_) (fun c1 => ?_)
    · skip
      refine lv_iload_n hx hb dX1_numberBy_75 rfl (lv_at hl 1 rfl) ?_
      refine lv_bipush (v := nI 8) hx hb dX1_numberBy_76 (by decide) ?_
      refine kn_isub hx hb (by omega) dX1_numberBy_78 ?_
      exact W.iret (v := nI (v - 8)) hx hb hr (fun t9 ht9 hW9 => ⟨_, rfl, (by show _ = nI (if v < 8 then 7 - v else v - 8); rw [if_neg (by omega)]), ht9⟩) (fun _ h => nomatch h) dX1_numberBy_79
    · skip
      refine lv_bipush (v := nI 7) hx hb dX1_numberBy_68 (by decide) ?_
      refine lv_iload_n hx hb dX1_numberBy_70 rfl (lv_at hl 1 rfl) ?_
      refine kn_isub hx hb (by omega) dX1_numberBy_71 ?_
      refine lv_goto (tgt := 79) hx hb dX1_numberBy_72 (by decide) ?_
      exact W.iret (v := nI (7 - v)) hx hb hr (fun t9 ht9 hW9 => ⟨_, rfl, (by show _ = nI (if v < 8 then 7 - v else v - 8); rw [if_pos (by omega)]), ht9⟩) (fun _ h => nomatch h) dX1_numberBy_79
  · skip
    have hl : lv_has ls 2 [(0, .int (nI 6)), (1, .int (nI v))] := hl
    refine lv_iload_n hx hb dX1_numberBy_0 rfl (lv_at hl 0 rfl) ?_
    refine lv_tableIn (x := nI 6) (off := 79) (tgt := 80) hx hb dX1_numberBy_1 (by decide) (by decide) (by decide) (by decide) ?_
    refine lv_iload_n hx hb dX1_numberBy_80 rfl (lv_at hl 1 rfl) ?_
    refine kx_cr (v := nI (numK 6 v)) (va_runS (As := [.int (nI v)]) (rest := []) ⟨hx, hb, hml, hown, hts⟩ (m_J6_bitCount l dC dI ad S v (by omega)) (va_cwS 1 hts gX1_numberBy_J6_bitCount_0f7a4 rfl rfl rfl hdJ6_bitCount_0f7a4_1.2 ⟨Nat.le_of_ble_eq_true rfl, Nat.le_of_ble_eq_true rfl⟩) hX.preS rfl rfl hl.1 rfl (lv_room (Nat.le_of_ble_eq_true rfl)) dX1_numberBy_81 ⟨Nat.le_of_ble_eq_true rfl, Nat.le_of_ble_eq_true rfl⟩) (fun _ h => h) ?_
    exact W.iret (v := nI (numK 6 v)) hx hb hr (fun t9 ht9 hW9 => ⟨_, rfl, rfl, ht9⟩) (fun _ h => nomatch h) dX1_numberBy_84
  · skip
    have hl : lv_has ls 2 [(0, .int (nI 7)), (1, .int (nI v))] := hl
    refine lv_iload_n hx hb dX1_numberBy_0 rfl (lv_at hl 0 rfl) ?_
    refine lv_tableOut (x := nI 7) (tgt := 85) hx hb dX1_numberBy_1 (by decide) (by decide) ?_
    refine lv_iconst (v := nI 0) hx hb dX1_numberBy_85 (by decide) ?_
    exact W.iret (v := nI 0) hx hb hr (fun t9 ht9 hW9 => ⟨_, rfl, rfl, ht9⟩) (fun _ h => nomatch h) dX1_numberBy_86
set_option maxHeartbeats 4000000 in
set_option maxRecDepth 100000 in
theorem m_X1_settle (l : Launch) (dC : Nat → ClassId) (dI : Nat → Nat → Nat) (ad : Nat → Nat) (S : XS) (j : Nat) (hj : j < 6) (ho : stepOK (S.2.1 j)) : Met l yX1_settle wsX1_settle ({ frames := 2, cells := 0, slots := 0, locals := 44 } : Room) (va_Pc [.ref (ad (24 + 5 * j))] (PX dC dI ad S)) (va_Qv (fun S' => S' = xO S j ((S.2.1 j).1, (S.2.1 j).2.1, ovl (codeOf (S.2.1 j).1 (S.2.1 j).2.1 (S.2.1 j).2.2.2.2.1) (S.2.1 j).2.2.1 16, ovl (rankC (codeOf (S.2.1 j).1 (S.2.1 j).2.1 (S.2.1 j).2.2.2.2.1)) (S.2.1 j).2.2.2.1 16, (S.2.1 j).2.2.2.2.1, classC (codeOf (S.2.1 j).1 (S.2.1 j).2.1 (S.2.1 j).2.2.2.2.1))) (PX dC dI ad) (AX ad)) 0 0 (AX ad) := by
  refine Met.ofW (cc := cX1_settle) (maxL := 6) (ret := none) pl_X1 rfl ?_
  intro p e s m args below meth c s₁ B hml hv
  obtain ⟨rfl, hPX⟩ := hv
  have hx := B.exec
  have hb := B.bytes
  have hr := B.returns
  have hts := atoms_spec (ws := wsX1_settle) B.pre
  have hown : s.vm.findClass RX1 = some m.cls := findClass_of_methodNamed B.named
  have hlocks := B.notSynchronized
  have hin1 : ∀ w ∈ u_ws RX1 TX1 6, w ∈ wsX1_settle := tu 1324 (by decide +kernel) rfl
  have hX := WX.of hPX
  have hl := lv_entry ([.ref (ad (24 + 5 * j))]) (n := 6) (Nat.le_of_ble_eq_true rfl)
  rw [lg_entry_eq]
  generalize (lg_sl ([.ref (ad (24 + 5 * j))]) ++ List.replicate (6 - (lg_sl ([.ref (ad (24 + 5 * j))])).length) Slot.unset).toArray = ls at hl ⊢
  have hl : lv_has ls 6 [(0, .ref (ad (24 + 5 * j)))] := hl
  show W p l e ({ frames := 2, cells := 0, slots := 0, locals := 44 } : Room) s m ([.ref (ad (24 + 5 * j))]).toArray below meth c s.heap [] 0 0 (MQ below (va_Qv (fun S' => S' = xO S j ((S.2.1 j).1, (S.2.1 j).2.1, ovl (codeOf (S.2.1 j).1 (S.2.1 j).2.1 (S.2.1 j).2.2.2.2.1) (S.2.1 j).2.2.1 16, ovl (rankC (codeOf (S.2.1 j).1 (S.2.1 j).2.1 (S.2.1 j).2.2.2.2.1)) (S.2.1 j).2.2.2.1 16, (S.2.1 j).2.2.2.2.1, classC (codeOf (S.2.1 j).1 (S.2.1 j).2.1 (S.2.1 j).2.2.2.2.1))) (PX dC dI ad) (AX ad)) ([.ref (ad (24 + 5 * j))]).toArray s 0 0 (AX ad)) (F0 m 0 ls [])
  have hn := ho.1
  refine lv_iconst (v := nI 0) hx hb dX1_settle_0 (by decide) ?_
  refine lv_istore_n (lv' := [(1, .int (nI 0)), (0, .ref (ad (24 + 5 * j)))]) hx hb dX1_settle_1 rfl hl (by decide) rfl (fun ls hl => ?_)
  have loop2 : ∀ (fuel : Nat) (a : Nat) (ha : a ≤ 16) (H : Heap) (locs : List Loc), 16 - a < fuel → WX dC dI ad (xO S j ((S.2.1 j).1, (S.2.1 j).2.1, ovl (codeOf (S.2.1 j).1 (S.2.1 j).2.1 (S.2.1 j).2.2.2.2.1) (S.2.1 j).2.2.1 a, (S.2.1 j).2.2.2.1, (S.2.1 j).2.2.2.2.1, (S.2.1 j).2.2.2.2.2)) (AX ad) s H locs → ∀ ls : Array Slot, lv_has ls 6 [(0, .ref (ad (24 + 5 * j))), (1, .int (nI a))] → W p l e ({ frames := 2, cells := 0, slots := 0, locals := 44 } : Room) s m ([.ref (ad (24 + 5 * j))]).toArray below meth c H locs 0 0 (MQ below (va_Qv (fun S' => S' = xO S j ((S.2.1 j).1, (S.2.1 j).2.1, ovl (codeOf (S.2.1 j).1 (S.2.1 j).2.1 (S.2.1 j).2.2.2.2.1) (S.2.1 j).2.2.1 16, ovl (rankC (codeOf (S.2.1 j).1 (S.2.1 j).2.1 (S.2.1 j).2.2.2.2.1)) (S.2.1 j).2.2.2.1 16, (S.2.1 j).2.2.2.2.1, classC (codeOf (S.2.1 j).1 (S.2.1 j).2.1 (S.2.1 j).2.2.2.2.1))) (PX dC dI ad) (AX ad)) ([.ref (ad (24 + 5 * j))]).toArray s 0 0 (AX ad)) (F0 m 2 ls []) := by
    intro fuel
    induction fuel with
    | zero => intro a ha H locs hf; exact absurd hf (Nat.not_lt_zero _)
    | succ fuel ih2 =>
      intro a ha H locs hf hX ls hl
      refine lv_iload_n hx hb dX1_settle_2 rfl (lv_at hl 1 rfl) ?_
      refine lv_aload_n hx hb dX1_settle_3 rfl (lv_at hl 0 rfl) ?_
      refine ko_gc hx hb hts hin1 hown hX hj (hts (.fieldLink RX1 19 "Orderlattice$Order" "codes" "[J") (tm 35 (by decide +kernel) rfl)) dX1_settle_4 ?_
      refine ko_nc hx hb hX hj dX1_settle_7 ?_
      refine kn_icmp_ge (tgt := 105) hx hb (by omega) (by omega) dX1_settle_8 (by decide) (fun c1 => ?_) (fun c1 => ?_)
      · skip
        refine lv_aload_n hx hb dX1_settle_105 rfl (lv_at hl 0 rfl) ?_
        refine kx_cv (va_runV (As := []) (rest := []) ⟨hx, hb, hml, hown, hts⟩ (m_X1_rankAll l dC dI ad (xO S j ((S.2.1 j).1, (S.2.1 j).2.1, ovl (codeOf (S.2.1 j).1 (S.2.1 j).2.1 (S.2.1 j).2.2.2.2.1) (S.2.1 j).2.2.1 a, (S.2.1 j).2.2.2.1, (S.2.1 j).2.2.2.2.1, (S.2.1 j).2.2.2.2.2)) j hj (by rw [xO_ord]; dsimp only; rw [show a = 16 by omega]; exact fun k hk => by rw [ovl_in hk]; exact Nat.lt_of_lt_of_le (codeOf_lt _ _ hk _) (Nat.le_trans (pow16_le hn) (by decide)))) (cwV 0 hts gX1_settle_X1_rankAll rfl rfl rfl hdX1_rankAll_0 ⟨Nat.le_of_ble_eq_true rfl, Nat.le_of_ble_eq_true rfl⟩) (hX.preOrd hj) rfl rfl hl.1 rfl (lv_room (Nat.le_of_ble_eq_true rfl)) dX1_settle_106 ⟨Nat.le_of_ble_eq_true rfl, Nat.le_of_ble_eq_true rfl⟩) hX (fun _ h => h) (fun S_ H locs hw hX => ?_)
        rw [xO_ord, xO_xO] at hw
        dsimp only at hw
        rw [show a = 16 by omega, rank_ovl, class_ovl] at hw
        subst hw
        exact W.vret hx hb hr (fun t9 ht9 hW9 => ⟨⟨(xO S j ((S.2.1 j).1, (S.2.1 j).2.1, ovl (codeOf (S.2.1 j).1 (S.2.1 j).2.1 (S.2.1 j).2.2.2.2.1) (S.2.1 j).2.2.1 16, ovl (rankC (codeOf (S.2.1 j).1 (S.2.1 j).2.1 (S.2.1 j).2.2.2.2.1)) (S.2.1 j).2.2.2.1 16, (S.2.1 j).2.2.2.2.1, classC (codeOf (S.2.1 j).1 (S.2.1 j).2.1 (S.2.1 j).2.2.2.2.1))), rfl, rfl, hX.P ht9 hW9⟩, hX.2.2.2.F ht9⟩) hX.2.2.2.2.2 dX1_settle_109
      · skip
        refine lv_lconst (v := lN 0) hx hb dX1_settle_11 (by decide) ?_
        refine lv_lstore_n (lv' := [(2, .long (lN 0)), (0, .ref (ad (24 + 5 * j))), (1, .int (nI a))]) hx hb dX1_settle_12 rfl hl (by decide) rfl (fun ls hl => ?_)
        refine lv_iconst (v := nI 0) hx hb dX1_settle_13 (by decide) ?_
        refine lv_istore (lv' := [(4, .int (nI 0)), (2, .long (lN 0)), (0, .ref (ad (24 + 5 * j))), (1, .int (nI a))]) hx hb dX1_settle_14 hl (by decide) rfl (fun ls hl => ?_)
        have loop16 : ∀ (fuel : Nat) (q x : Nat) (hk : q ≤ (S.2.1 j).2.2.2.2.1) (hq : x = codeOf (S.2.1 j).1 (S.2.1 j).2.1 q a) (H : Heap) (locs : List Loc), (S.2.1 j).2.2.2.2.1 - q < fuel → WX dC dI ad (xO S j ((S.2.1 j).1, (S.2.1 j).2.1, ovl (codeOf (S.2.1 j).1 (S.2.1 j).2.1 (S.2.1 j).2.2.2.2.1) (S.2.1 j).2.2.1 a, (S.2.1 j).2.2.2.1, (S.2.1 j).2.2.2.2.1, (S.2.1 j).2.2.2.2.2)) (AX ad) s H locs → ∀ ls : Array Slot, lv_has ls 6 [(0, .ref (ad (24 + 5 * j))), (1, .int (nI a)), (2, .long (lN x)), (4, .int (nI q))] → W p l e ({ frames := 2, cells := 0, slots := 0, locals := 44 } : Room) s m ([.ref (ad (24 + 5 * j))]).toArray below meth c H locs 0 0 (MQ below (va_Qv (fun S' => S' = xO S j ((S.2.1 j).1, (S.2.1 j).2.1, ovl (codeOf (S.2.1 j).1 (S.2.1 j).2.1 (S.2.1 j).2.2.2.2.1) (S.2.1 j).2.2.1 16, ovl (rankC (codeOf (S.2.1 j).1 (S.2.1 j).2.1 (S.2.1 j).2.2.2.2.1)) (S.2.1 j).2.2.2.1 16, (S.2.1 j).2.2.2.2.1, classC (codeOf (S.2.1 j).1 (S.2.1 j).2.1 (S.2.1 j).2.2.2.2.1))) (PX dC dI ad) (AX ad)) ([.ref (ad (24 + 5 * j))]).toArray s 0 0 (AX ad)) (F0 m 16 ls []) := by
          intro fuel
          induction fuel with
          | zero => intro q x hk hq H locs hf; exact absurd hf (Nat.not_lt_zero _)
          | succ fuel ih16 =>
            intro q x hk hq H locs hf hX ls hl
            refine lv_iload hx hb dX1_settle_16 (lv_at hl 3 rfl) ?_
            refine lv_aload_n hx hb dX1_settle_18 rfl (lv_at hl 0 rfl) ?_
            refine ko_gn (n := (S.2.1 j).2.2.2.2.1) hx hb hts hin1 hown hX hj (by rw [xO_ord]) (hts (.fieldLink RX1 26 "Orderlattice$Order" "many" "I") (tm 37 (by decide +kernel) rfl)) dX1_settle_19 ?_
            refine kn_icmp_ge (tgt := 92) hx hb (by omega) (by omega) dX1_settle_22 (by decide) (fun c2 => ?_) (fun c2 => ?_)
            · skip
              refine lv_aload_n hx hb dX1_settle_92 rfl (lv_at hl 0 rfl) ?_
              refine ko_gc hx hb hts hin1 hown hX hj (hts (.fieldLink RX1 19 "Orderlattice$Order" "codes" "[J") (tm 35 (by decide +kernel) rfl)) dX1_settle_93 ?_
              refine lv_iload_n hx hb dX1_settle_96 rfl (lv_at hl 1 rfl) ?_
              refine lv_lload_n hx hb dX1_settle_97 rfl (lv_at hl 2 rfl) ?_
              refine ko_sc (S' := (xO S j ((S.2.1 j).1, (S.2.1 j).2.1, va_up (ovl (codeOf (S.2.1 j).1 (S.2.1 j).2.1 (S.2.1 j).2.2.2.2.1) (S.2.1 j).2.2.1 a) a x, (S.2.1 j).2.2.2.1, (S.2.1 j).2.2.2.2.1, (S.2.1 j).2.2.2.2.2))) hx hb hX hj (by omega) (by rw [xO_ord, xO_xO]) dX1_settle_98 (fun H locs hX => ?_)
              refine lv_iinc (v := nI (a + 1)) (lv' := [(1, .int (nI (a + 1))), (0, .ref (ad (24 + 5 * j))), (2, .long (lN x)), (4, .int (nI q))]) hx hb dX1_settle_99 hl (k := 1) rfl (nI_1 a) (by decide) rfl (fun ls hl => ?_)
              refine lv_goto (tgt := 2) hx hb dX1_settle_102 (by decide) ?_
              exact ih2  (a + 1) (by omega) _ _ (by omega) (WX.eqS (by rw [hq, show q = (S.2.1 j).2.2.2.2.1 by omega, ovl_up]) hX) _ (lv_sub hl [1, 0] rfl)
            · skip
              refine lv_iload hx hb dX1_settle_25 (lv_at hl 3 rfl) ?_
              refine lv_aload_n hx hb dX1_settle_27 rfl (lv_at hl 0 rfl) ?_
              refine ko_gk hx hb hts hin1 hown hX hj (hts (.fieldLink RX1 11 "Orderlattice$Order" "keys" "[I") (tm 31 (by decide +kernel) rfl)) dX1_settle_28 ?_
              refine ko_nk hx hb hX hj dX1_settle_31 ?_
              refine kn_icmp_ge (tgt := 92) hx hb (by omega) (by omega) dX1_settle_32 (by decide) (fun c3 => absurd c3 (by omega)) (fun c3 => ?_)
              refine lv_iload hx hb dX1_settle_35 (lv_at hl 3 rfl) ?_
              refine lv_aload_n hx hb dX1_settle_37 rfl (lv_at hl 0 rfl) ?_
              refine ko_gd hx hb hts hin1 hown hX hj (hts (.fieldLink RX1 15 "Orderlattice$Order" "downs" "[Z") (tm 33 (by decide +kernel) rfl)) dX1_settle_38 ?_
              refine ko_nd hx hb hX hj dX1_settle_41 ?_
              refine kn_icmp_ge (tgt := 92) hx hb (by omega) (by omega) dX1_settle_42 (by decide) (fun c4 => absurd c4 (by omega)) (fun c4 => ?_)
              refine lv_aload_n hx hb dX1_settle_45 rfl (lv_at hl 0 rfl) ?_
              refine ko_gk hx hb hts hin1 hown hX hj (hts (.fieldLink RX1 11 "Orderlattice$Order" "keys" "[I") (tm 31 (by decide +kernel) rfl)) dX1_settle_46 ?_
              refine lv_iload hx hb dX1_settle_49 (lv_at hl 3 rfl) ?_
              refine ko_lk (v := ((S.2.1 j).1) q) hx hb hX hj (by omega) (by rw [xO_ord]) dX1_settle_51 ?_
              refine lv_iload_n hx hb dX1_settle_52 rfl (lv_at hl 1 rfl) ?_
              refine kx_cr (v := nI (numK (((S.2.1 j).1) q) a)) (va_runS (As := [.int (nI (((S.2.1 j).1) q)), .int (nI a)]) (rest := []) ⟨hx, hb, hml, hown, hts⟩ (m_X1_numberBy l dC dI ad (xO S j ((S.2.1 j).1, (S.2.1 j).2.1, ovl (codeOf (S.2.1 j).1 (S.2.1 j).2.1 (S.2.1 j).2.2.2.2.1) (S.2.1 j).2.2.1 a, (S.2.1 j).2.2.2.1, (S.2.1 j).2.2.2.2.1, (S.2.1 j).2.2.2.2.2)) (((S.2.1 j).1) q) a (ho.2 _ (by omega)) (by omega)) (va_cwS 2 hts gX1_settle_X1_numberBy rfl rfl rfl hdX1_numberBy_2.2 ⟨Nat.le_of_ble_eq_true rfl, Nat.le_of_ble_eq_true rfl⟩) hX.preS rfl rfl hl.1 rfl (lv_room (Nat.le_of_ble_eq_true rfl)) dX1_settle_53 ⟨Nat.le_of_ble_eq_true rfl, Nat.le_of_ble_eq_true rfl⟩) (fun _ h => h) ?_
              refine lv_istore (lv' := [(5, .int (nI (numK (((S.2.1 j).1) q) a))), (0, .ref (ad (24 + 5 * j))), (1, .int (nI a)), (2, .long (lN x)), (4, .int (nI q))]) hx hb dX1_settle_56 hl (by decide) rfl (fun ls hl => ?_)
              refine lv_lload_n hx hb dX1_settle_58 rfl (lv_at hl 3 rfl) ?_
              refine lv_ldc2 (v := lN 16) hx hb hown (hts (.constantLong RX1 86 16) (tm 39 (by decide +kernel) rfl)) dX1_settle_59 ?_
              refine kn_lmul hx hb dX1_settle_62 ?_
              refine lv_aload_n hx hb dX1_settle_63 rfl (lv_at hl 1 rfl) ?_
              refine ko_gd hx hb hts hin1 hown hX hj (hts (.fieldLink RX1 15 "Orderlattice$Order" "downs" "[Z") (tm 33 (by decide +kernel) rfl)) dX1_settle_64 ?_
              refine lv_iload hx hb dX1_settle_67 (lv_at hl 4 rfl) ?_
              refine ko_ld (z := ((S.2.1 j).2.1) q) hx hb hX hj (by omega) (by rw [xO_ord]) dX1_settle_69 ?_
              refine kb_if_eq (tgt := 81) hx hb dX1_settle_70 (by decide) (fun c5 => ?_) (fun c5 => ?_)
              · skip
                have hd := c5
                refine lv_iload hx hb dX1_settle_81 (lv_at hl 0 rfl) ?_
                have h9 := numK_lt (k := (S.2.1 j).1 q) (v := a) (by omega)
                refine lv_i2l (v := lN (numK (((S.2.1 j).1) q) a)) hx hb dX1_settle_83 (nI_l (by omega)) ?_
                refine kn_ladd hx hb dX1_settle_84 ?_
                refine lv_lstore_n (lv' := [(2, .long (lN (x * 16 + (numK (((S.2.1 j).1) q) a)))), (5, .int (nI (numK (((S.2.1 j).1) q) a))), (0, .ref (ad (24 + 5 * j))), (1, .int (nI a)), (4, .int (nI q))]) hx hb dX1_settle_85 rfl hl (by decide) rfl (fun ls hl => ?_)
                refine lv_iinc (v := nI (q + 1)) (lv' := [(4, .int (nI (q + 1))), (2, .long (lN (x * 16 + (numK (((S.2.1 j).1) q) a)))), (5, .int (nI (numK (((S.2.1 j).1) q) a))), (0, .ref (ad (24 + 5 * j))), (1, .int (nI a))]) hx hb dX1_settle_86 hl (k := 4) rfl (nI_1 q) (by decide) rfl (fun ls hl => ?_)
                refine lv_goto (tgt := 16) hx hb dX1_settle_89 (by decide) ?_
                exact ih16  (q + 1) (x * 16 + (numK (((S.2.1 j).1) q) a)) (by omega) (by rw [codeOf, ← hq, digK, hd]; rfl) _ _ (by omega) hX _ (lv_sub hl [3, 4, 1, 0] rfl)
              · skip
                have hd := c5
                refine lv_bipush (v := nI 15) hx hb dX1_settle_73 (by decide) ?_
                refine lv_iload hx hb dX1_settle_75 (lv_at hl 0 rfl) ?_
                have h9 := numK_lt (k := (S.2.1 j).1 q) (v := a) (by omega)
                refine kn_isub hx hb (by omega) dX1_settle_77 ?_
                refine lv_goto (tgt := 83) hx hb dX1_settle_78 (by decide) ?_
                have h9 := numK_lt (k := (S.2.1 j).1 q) (v := a) (by omega)
                refine lv_i2l (v := lN (15 - (numK (((S.2.1 j).1) q) a))) hx hb dX1_settle_83 (nI_l (by omega)) ?_
                refine kn_ladd hx hb dX1_settle_84 ?_
                refine lv_lstore_n (lv' := [(2, .long (lN (x * 16 + (15 - (numK (((S.2.1 j).1) q) a))))), (5, .int (nI (numK (((S.2.1 j).1) q) a))), (0, .ref (ad (24 + 5 * j))), (1, .int (nI a)), (4, .int (nI q))]) hx hb dX1_settle_85 rfl hl (by decide) rfl (fun ls hl => ?_)
                refine lv_iinc (v := nI (q + 1)) (lv' := [(4, .int (nI (q + 1))), (2, .long (lN (x * 16 + (15 - (numK (((S.2.1 j).1) q) a))))), (5, .int (nI (numK (((S.2.1 j).1) q) a))), (0, .ref (ad (24 + 5 * j))), (1, .int (nI a))]) hx hb dX1_settle_86 hl (k := 4) rfl (nI_1 q) (by decide) rfl (fun ls hl => ?_)
                refine lv_goto (tgt := 16) hx hb dX1_settle_89 (by decide) ?_
                exact ih16  (q + 1) (x * 16 + (15 - (numK (((S.2.1 j).1) q) a))) (by omega) (by rw [codeOf, ← hq, digK, hd]; rfl) _ _ (by omega) hX _ (lv_sub hl [3, 4, 1, 0] rfl)
        exact loop16 ((S.2.1 j).2.2.2.2.1 - 0 + 1) 0 0 (by omega) rfl _ _ (by omega) (WX.eqS rfl hX) _ (lv_sub hl [2, 3, 1, 0] rfl)
  exact loop2 (16 - 0 + 1) 0 (by omega) _ _ (by omega) (WX.eqS (by rw [ovl_0]; exact (xO_self S j).symm) hX) _ (lv_sub hl [1, 0] rfl)
set_option maxHeartbeats 4000000 in
set_option maxRecDepth 100000 in
theorem m_X1_append (l : Launch) (dC : Nat → ClassId) (dI : Nat → Nat → Nat) (ad : Nat → Nat) (S : XS) (j k : Nat) (d : Bool) (hj : j < 6) (ho : stepOK (S.2.1 j)) (hn : (S.2.1 j).2.2.2.2.1 < 10) (hk : k < 8) : Met l yX1_append wsX1_append ({ frames := 3, cells := 0, slots := 0, locals := 69 } : Room) (va_Pc [.ref (ad (24 + 5 * j)), .int (nI k), .int (bI d)] (PX dC dI ad S)) (va_Qv (fun S' => S' = xO S j (newO (va_up (S.2.1 j).1 (S.2.1 j).2.2.2.2.1 k) (va_up (S.2.1 j).2.1 (S.2.1 j).2.2.2.2.1 d) ((S.2.1 j).2.2.2.2.1 + 1) (S.2.1 j).2.2.1 (S.2.1 j).2.2.2.1)) (PX dC dI ad) (AX ad)) 0 0 (AX ad) := by
  refine Met.ofW (cc := cX1_append) (maxL := 3) (ret := none) pl_X1 rfl ?_
  intro p e s m args below meth c s₁ B hml hv
  obtain ⟨rfl, hPX⟩ := hv
  have hx := B.exec
  have hb := B.bytes
  have hr := B.returns
  have hts := atoms_spec (ws := wsX1_append) B.pre
  have hown : s.vm.findClass RX1 = some m.cls := findClass_of_methodNamed B.named
  have hlocks := B.notSynchronized
  have hX := WX.of hPX
  have hl := lv_entry ([.ref (ad (24 + 5 * j)), .int (nI k), .int (bI d)]) (n := 3) (Nat.le_of_ble_eq_true rfl)
  rw [lg_entry_eq]
  generalize (lg_sl ([.ref (ad (24 + 5 * j)), .int (nI k), .int (bI d)]) ++ List.replicate (3 - (lg_sl ([.ref (ad (24 + 5 * j)), .int (nI k), .int (bI d)])).length) Slot.unset).toArray = ls at hl ⊢
  have hl : lv_has ls 3 [(0, .ref (ad (24 + 5 * j))), (1, .int (nI k)), (2, .int (bI d))] := hl
  show W p l e ({ frames := 3, cells := 0, slots := 0, locals := 69 } : Room) s m ([.ref (ad (24 + 5 * j)), .int (nI k), .int (bI d)]).toArray below meth c s.heap [] 0 0 (MQ below (va_Qv (fun S' => S' = xO S j (newO (va_up (S.2.1 j).1 (S.2.1 j).2.2.2.2.1 k) (va_up (S.2.1 j).2.1 (S.2.1 j).2.2.2.2.1 d) ((S.2.1 j).2.2.2.2.1 + 1) (S.2.1 j).2.2.1 (S.2.1 j).2.2.2.1)) (PX dC dI ad) (AX ad)) ([.ref (ad (24 + 5 * j)), .int (nI k), .int (bI d)]).toArray s 0 0 (AX ad)) (F0 m 0 ls [])
  refine lv_aload_n hx hb dX1_append_0 rfl (lv_at hl 0 rfl) ?_
  refine lv_iload_n hx hb dX1_append_1 rfl (lv_at hl 1 rfl) ?_
  refine lv_iload_n hx hb dX1_append_2 rfl (lv_at hl 2 rfl) ?_
  refine kx_cv (va_runV (As := [.int (nI k), .int (bI d)]) (rest := []) ⟨hx, hb, hml, hown, hts⟩ (m_X1_addStep l dC dI ad S j k d hj (by omega)) (cwV 2 hts gX1_append_X1_addStep rfl rfl rfl hdX1_addStep_2 ⟨Nat.le_of_ble_eq_true rfl, Nat.le_of_ble_eq_true rfl⟩) (hX.preOrd hj) rfl rfl hl.1 rfl (lv_room (Nat.le_of_ble_eq_true rfl)) dX1_append_3 ⟨Nat.le_of_ble_eq_true rfl, Nat.le_of_ble_eq_true rfl⟩) hX (fun _ h => h) (fun S_ H locs hw hX => ?_)
  subst hw
  refine lv_aload_n hx hb dX1_append_6 rfl (lv_at hl 0 rfl) ?_
  refine kx_cv (va_runV (As := []) (rest := []) ⟨hx, hb, hml, hown, hts⟩ (m_X1_settle l dC dI ad (xO S j (va_up ((S.2.1 j).1) ((S.2.1 j).2.2.2.2.1) k, va_up ((S.2.1 j).2.1) ((S.2.1 j).2.2.2.2.1) d, (S.2.1 j).2.2.1, (S.2.1 j).2.2.2.1, (S.2.1 j).2.2.2.2.1 + 1, (S.2.1 j).2.2.2.2.2)) j hj (by rw [xO_ord]; exact stepOK_up ho hn hk)) (cwV 0 hts gX1_append_X1_settle rfl rfl rfl hdX1_settle_0 ⟨Nat.le_of_ble_eq_true rfl, Nat.le_of_ble_eq_true rfl⟩) (hX.preOrd hj) rfl rfl hl.1 rfl (lv_room (Nat.le_of_ble_eq_true rfl)) dX1_append_7 ⟨Nat.le_of_ble_eq_true rfl, Nat.le_of_ble_eq_true rfl⟩) hX (fun _ h => h) (fun S_ H locs hw hX => ?_)
  rw [xO_ord, xO_xO] at hw
  subst hw
  exact W.vret hx hb hr (fun t9 ht9 hW9 => ⟨⟨(xO S j (va_up ((S.2.1 j).1) ((S.2.1 j).2.2.2.2.1) k, va_up ((S.2.1 j).2.1) ((S.2.1 j).2.2.2.2.1) d, ovl (codeOf (va_up ((S.2.1 j).1) ((S.2.1 j).2.2.2.2.1) k) (va_up ((S.2.1 j).2.1) ((S.2.1 j).2.2.2.2.1) d) ((S.2.1 j).2.2.2.2.1 + 1)) ((S.2.1 j).2.2.1) 16, ovl (rankC (codeOf (va_up ((S.2.1 j).1) ((S.2.1 j).2.2.2.2.1) k) (va_up ((S.2.1 j).2.1) ((S.2.1 j).2.2.2.2.1) d) ((S.2.1 j).2.2.2.2.1 + 1))) ((S.2.1 j).2.2.2.1) 16, (S.2.1 j).2.2.2.2.1 + 1, classC (codeOf (va_up ((S.2.1 j).1) ((S.2.1 j).2.2.2.2.1) k) (va_up ((S.2.1 j).2.1) ((S.2.1 j).2.2.2.2.1) d) ((S.2.1 j).2.2.2.2.1 + 1)))), rfl, rfl, hX.P ht9 hW9⟩, hX.2.2.2.F ht9⟩) hX.2.2.2.2.2 dX1_append_10
set_option maxHeartbeats 4000000 in
set_option maxRecDepth 100000 in
theorem m_X1_empty (l : Launch) (dC : Nat → ClassId) (dI : Nat → Nat → Nat) (ad : Nat → Nat) (S : XS) (j : Nat) (hj : j < 6) (ho : stepOK (S.2.1 j)) : Met l yX1_empty wsX1_empty ({ frames := 3, cells := 0, slots := 0, locals := 69 } : Room) (va_Pc [.ref (ad (24 + 5 * j))] (PX dC dI ad S)) (va_Qv (fun S' => S' = xO S j (newO (S.2.1 j).1 (S.2.1 j).2.1 0 (S.2.1 j).2.2.1 (S.2.1 j).2.2.2.1)) (PX dC dI ad) (AX ad)) 0 0 (AX ad) := by
  refine Met.ofW (cc := cX1_empty) (maxL := 1) (ret := none) pl_X1 rfl ?_
  intro p e s m args below meth c s₁ B hml hv
  obtain ⟨rfl, hPX⟩ := hv
  have hx := B.exec
  have hb := B.bytes
  have hr := B.returns
  have hts := atoms_spec (ws := wsX1_empty) B.pre
  have hown : s.vm.findClass RX1 = some m.cls := findClass_of_methodNamed B.named
  have hlocks := B.notSynchronized
  have hin1 : ∀ w ∈ u_ws RX1 TX1 6, w ∈ wsX1_empty := tu 1324 (by decide +kernel) rfl
  have hX := WX.of hPX
  have hl := lv_entry ([.ref (ad (24 + 5 * j))]) (n := 1) (Nat.le_of_ble_eq_true rfl)
  rw [lg_entry_eq]
  generalize (lg_sl ([.ref (ad (24 + 5 * j))]) ++ List.replicate (1 - (lg_sl ([.ref (ad (24 + 5 * j))])).length) Slot.unset).toArray = ls at hl ⊢
  have hl : lv_has ls 1 [(0, .ref (ad (24 + 5 * j)))] := hl
  show W p l e ({ frames := 3, cells := 0, slots := 0, locals := 69 } : Room) s m ([.ref (ad (24 + 5 * j))]).toArray below meth c s.heap [] 0 0 (MQ below (va_Qv (fun S' => S' = xO S j (newO (S.2.1 j).1 (S.2.1 j).2.1 0 (S.2.1 j).2.2.1 (S.2.1 j).2.2.2.1)) (PX dC dI ad) (AX ad)) ([.ref (ad (24 + 5 * j))]).toArray s 0 0 (AX ad)) (F0 m 0 ls [])
  refine lv_aload_n hx hb dX1_empty_0 rfl (lv_at hl 0 rfl) ?_
  refine lv_iconst (v := nI 0) hx hb dX1_empty_1 (by decide) ?_
  refine ko_pn (S' := (xO S j ((S.2.1 j).1, (S.2.1 j).2.1, (S.2.1 j).2.2.1, (S.2.1 j).2.2.2.1, 0, (S.2.1 j).2.2.2.2.2))) hx hb hts hin1 hown hX hj rfl (hts (.fieldLink RX1 26 "Orderlattice$Order" "many" "I") (tm 37 (by decide +kernel) rfl)) dX1_empty_2 (fun H locs hX => ?_)
  refine lv_aload_n hx hb dX1_empty_5 rfl (lv_at hl 0 rfl) ?_
  refine kx_cv (va_runV (As := []) (rest := []) ⟨hx, hb, hml, hown, hts⟩ (m_X1_settle l dC dI ad (xO S j ((S.2.1 j).1, (S.2.1 j).2.1, (S.2.1 j).2.2.1, (S.2.1 j).2.2.2.1, 0, (S.2.1 j).2.2.2.2.2)) j hj (by rw [xO_ord]; exact ⟨Nat.zero_le _, ho.2⟩)) (cwV 0 hts gX1_empty_X1_settle rfl rfl rfl hdX1_settle_0 ⟨Nat.le_of_ble_eq_true rfl, Nat.le_of_ble_eq_true rfl⟩) (hX.preOrd hj) rfl rfl hl.1 rfl (lv_room (Nat.le_of_ble_eq_true rfl)) dX1_empty_6 ⟨Nat.le_of_ble_eq_true rfl, Nat.le_of_ble_eq_true rfl⟩) hX (fun _ h => h) (fun S_ H locs hw hX => ?_)
  rw [xO_ord, xO_xO] at hw
  subst hw
  exact W.vret hx hb hr (fun t9 ht9 hW9 => ⟨⟨(xO S j ((S.2.1 j).1, (S.2.1 j).2.1, ovl (codeOf ((S.2.1 j).1) ((S.2.1 j).2.1) 0) ((S.2.1 j).2.2.1) 16, ovl (rankC (codeOf ((S.2.1 j).1) ((S.2.1 j).2.1) 0)) ((S.2.1 j).2.2.2.1) 16, 0, classC (codeOf ((S.2.1 j).1) ((S.2.1 j).2.1) 0))), rfl, rfl, hX.P ht9 hW9⟩, hX.2.2.2.F ht9⟩) hX.2.2.2.2.2 dX1_empty_9
set_option maxHeartbeats 4000000 in
set_option maxRecDepth 100000 in
theorem m_X1_removeLast (l : Launch) (dC : Nat → ClassId) (dI : Nat → Nat → Nat) (ad : Nat → Nat) (S : XS) (j : Nat) (hj : j < 6) (ho : stepOK (S.2.1 j)) (hn : 0 < (S.2.1 j).2.2.2.2.1) : Met l yX1_removeLast wsX1_removeLast ({ frames := 3, cells := 0, slots := 0, locals := 69 } : Room) (va_Pc [.ref (ad (24 + 5 * j))] (PX dC dI ad S)) (va_Qv (fun S' => S' = xO S j (newO (S.2.1 j).1 (S.2.1 j).2.1 ((S.2.1 j).2.2.2.2.1 - 1) (S.2.1 j).2.2.1 (S.2.1 j).2.2.2.1)) (PX dC dI ad) (AX ad)) 0 0 (AX ad) := by
  refine Met.ofW (cc := cX1_removeLast) (maxL := 1) (ret := none) pl_X1 rfl ?_
  intro p e s m args below meth c s₁ B hml hv
  obtain ⟨rfl, hPX⟩ := hv
  have hx := B.exec
  have hb := B.bytes
  have hr := B.returns
  have hts := atoms_spec (ws := wsX1_removeLast) B.pre
  have hown : s.vm.findClass RX1 = some m.cls := findClass_of_methodNamed B.named
  have hlocks := B.notSynchronized
  have hin1 : ∀ w ∈ u_ws RX1 TX1 6, w ∈ wsX1_removeLast := tu 1324 (by decide +kernel) rfl
  have hX := WX.of hPX
  have hl := lv_entry ([.ref (ad (24 + 5 * j))]) (n := 1) (Nat.le_of_ble_eq_true rfl)
  rw [lg_entry_eq]
  generalize (lg_sl ([.ref (ad (24 + 5 * j))]) ++ List.replicate (1 - (lg_sl ([.ref (ad (24 + 5 * j))])).length) Slot.unset).toArray = ls at hl ⊢
  have hl : lv_has ls 1 [(0, .ref (ad (24 + 5 * j)))] := hl
  show W p l e ({ frames := 3, cells := 0, slots := 0, locals := 69 } : Room) s m ([.ref (ad (24 + 5 * j))]).toArray below meth c s.heap [] 0 0 (MQ below (va_Qv (fun S' => S' = xO S j (newO (S.2.1 j).1 (S.2.1 j).2.1 ((S.2.1 j).2.2.2.2.1 - 1) (S.2.1 j).2.2.1 (S.2.1 j).2.2.2.1)) (PX dC dI ad) (AX ad)) ([.ref (ad (24 + 5 * j))]).toArray s 0 0 (AX ad)) (F0 m 0 ls [])
  have hn9 := ho.1
  refine lv_aload_n hx hb dX1_removeLast_0 rfl (lv_at hl 0 rfl) ?_
  refine ko_gn (n := (S.2.1 j).2.2.2.2.1) hx hb hts hin1 hown hX hj rfl (hts (.fieldLink RX1 26 "Orderlattice$Order" "many" "I") (tm 37 (by decide +kernel) rfl)) dX1_removeLast_1 ?_
  refine kn_if_le (tgt := 21) hx hb (by omega) dX1_removeLast_4 (by decide) (fun c1 => absurd c1 (by omega)) (fun c1 => ?_)
  refine lv_aload_n hx hb dX1_removeLast_7 rfl (lv_at hl 0 rfl) ?_
  refine lv_dup hx hb dX1_removeLast_8 rfl ?_
  refine ko_gn (n := (S.2.1 j).2.2.2.2.1) hx hb hts hin1 hown hX hj rfl (hts (.fieldLink RX1 26 "Orderlattice$Order" "many" "I") (tm 37 (by decide +kernel) rfl)) dX1_removeLast_9 ?_
  refine lv_iconst (v := nI 1) hx hb dX1_removeLast_12 (by decide) ?_
  refine kn_isub hx hb (by omega) dX1_removeLast_13 ?_
  refine ko_pn (S' := (xO S j ((S.2.1 j).1, (S.2.1 j).2.1, (S.2.1 j).2.2.1, (S.2.1 j).2.2.2.1, ((S.2.1 j).2.2.2.2.1) - 1, (S.2.1 j).2.2.2.2.2))) hx hb hts hin1 hown hX hj rfl (hts (.fieldLink RX1 26 "Orderlattice$Order" "many" "I") (tm 37 (by decide +kernel) rfl)) dX1_removeLast_14 (fun H locs hX => ?_)
  refine lv_aload_n hx hb dX1_removeLast_17 rfl (lv_at hl 0 rfl) ?_
  refine kx_cv (va_runV (As := []) (rest := []) ⟨hx, hb, hml, hown, hts⟩ (m_X1_settle l dC dI ad (xO S j ((S.2.1 j).1, (S.2.1 j).2.1, (S.2.1 j).2.2.1, (S.2.1 j).2.2.2.1, ((S.2.1 j).2.2.2.2.1) - 1, (S.2.1 j).2.2.2.2.2)) j hj (by rw [xO_ord]; exact ⟨Nat.le_trans (Nat.sub_le _ _) ho.1, ho.2⟩)) (cwV 0 hts gX1_removeLast_X1_settle rfl rfl rfl hdX1_settle_0 ⟨Nat.le_of_ble_eq_true rfl, Nat.le_of_ble_eq_true rfl⟩) (hX.preOrd hj) rfl rfl hl.1 rfl (lv_room (Nat.le_of_ble_eq_true rfl)) dX1_removeLast_18 ⟨Nat.le_of_ble_eq_true rfl, Nat.le_of_ble_eq_true rfl⟩) hX (fun _ h => h) (fun S_ H locs hw hX => ?_)
  rw [xO_ord, xO_xO] at hw
  subst hw
  exact W.vret hx hb hr (fun t9 ht9 hW9 => ⟨⟨(xO S j ((S.2.1 j).1, (S.2.1 j).2.1, ovl (codeOf ((S.2.1 j).1) ((S.2.1 j).2.1) (((S.2.1 j).2.2.2.2.1) - 1)) ((S.2.1 j).2.2.1) 16, ovl (rankC (codeOf ((S.2.1 j).1) ((S.2.1 j).2.1) (((S.2.1 j).2.2.2.2.1) - 1))) ((S.2.1 j).2.2.2.1) 16, ((S.2.1 j).2.2.2.2.1) - 1, classC (codeOf ((S.2.1 j).1) ((S.2.1 j).2.1) (((S.2.1 j).2.2.2.2.1) - 1)))), rfl, rfl, hX.P ht9 hW9⟩, hX.2.2.2.F ht9⟩) hX.2.2.2.2.2 dX1_removeLast_21
set_option maxHeartbeats 4000000 in
set_option maxRecDepth 100000 in
theorem m_X1_downSteps (l : Launch) (dC : Nat → ClassId) (dI : Nat → Nat → Nat) (ad : Nat → Nat) (S : XS) (j : Nat) (hj : j < 6) (ho : stepOK (S.2.1 j)) : Met l yX1_downSteps wsX1_downSteps ({ frames := 1, cells := 0, slots := 0, locals := 21 } : Room) (va_Pc [.ref (ad (24 + 5 * j))] (PX dC dI ad S)) (vp_Si (fun r => r = nI (cntB (S.2.1 j).2.1 (S.2.1 j).2.2.2.2.1))) 0 0 (fun _ => False) := by
  refine Met.ofW (cc := cX1_downSteps) (maxL := 3) (ret := (some .int)) pl_X1 rfl ?_
  intro p e s m args below meth c s₁ B hml hv
  obtain ⟨rfl, hPX⟩ := hv
  have hx := B.exec
  have hb := B.bytes
  have hr := B.returns
  have hts := atoms_spec (ws := wsX1_downSteps) B.pre
  have hown : s.vm.findClass RX1 = some m.cls := findClass_of_methodNamed B.named
  have hlocks := B.notSynchronized
  have hin1 : ∀ w ∈ u_ws RX1 TX1 6, w ∈ wsX1_downSteps := tu 1324 (by decide +kernel) rfl
  have hX := WX.of hPX
  have hl := lv_entry ([.ref (ad (24 + 5 * j))]) (n := 3) (Nat.le_of_ble_eq_true rfl)
  rw [lg_entry_eq]
  generalize (lg_sl ([.ref (ad (24 + 5 * j))]) ++ List.replicate (3 - (lg_sl ([.ref (ad (24 + 5 * j))])).length) Slot.unset).toArray = ls at hl ⊢
  have hl : lv_has ls 3 [(0, .ref (ad (24 + 5 * j)))] := hl
  show W p l e ({ frames := 1, cells := 0, slots := 0, locals := 21 } : Room) s m ([.ref (ad (24 + 5 * j))]).toArray below meth c s.heap [] 0 0 (MQ below (vp_Si (fun r => r = nI (cntB (S.2.1 j).2.1 (S.2.1 j).2.2.2.2.1))) ([.ref (ad (24 + 5 * j))]).toArray s 0 0 (fun _ => False)) (F0 m 0 ls [])
  have hn := ho.1
  refine lv_iconst (v := nI 0) hx hb dX1_downSteps_0 (by decide) ?_
  refine lv_istore_n (lv' := [(1, .int (nI 0)), (0, .ref (ad (24 + 5 * j)))]) hx hb dX1_downSteps_1 rfl hl (by decide) rfl (fun ls hl => ?_)
  refine lv_iconst (v := nI 0) hx hb dX1_downSteps_2 (by decide) ?_
  refine lv_istore_n (lv' := [(2, .int (nI 0)), (1, .int (nI 0)), (0, .ref (ad (24 + 5 * j)))]) hx hb dX1_downSteps_3 rfl hl (by decide) rfl (fun ls hl => ?_)
  have loop4 : ∀ (fuel : Nat) (q k : Nat) (hk : k ≤ (S.2.1 j).2.2.2.2.1) (hq : q = cntB (S.2.1 j).2.1 k), (S.2.1 j).2.2.2.2.1 - k < fuel → ∀ ls : Array Slot, lv_has ls 3 [(0, .ref (ad (24 + 5 * j))), (1, .int (nI q)), (2, .int (nI k))] → W p l e ({ frames := 1, cells := 0, slots := 0, locals := 21 } : Room) s m ([.ref (ad (24 + 5 * j))]).toArray below meth c s.heap [] 0 0 (MQ below (vp_Si (fun r => r = nI (cntB (S.2.1 j).2.1 (S.2.1 j).2.2.2.2.1))) ([.ref (ad (24 + 5 * j))]).toArray s 0 0 (fun _ => False)) (F0 m 4 ls []) := by
    intro fuel
    induction fuel with
    | zero => intro q k hk hq hf; exact absurd hf (Nat.not_lt_zero _)
    | succ fuel ih4 =>
      intro q k hk hq hf ls hl
      refine lv_iload_n hx hb dX1_downSteps_4 rfl (lv_at hl 2 rfl) ?_
      refine lv_aload_n hx hb dX1_downSteps_5 rfl (lv_at hl 0 rfl) ?_
      refine ko_gn (n := (S.2.1 j).2.2.2.2.1) hx hb hts hin1 hown hX hj rfl (hts (.fieldLink RX1 26 "Orderlattice$Order" "many" "I") (tm 37 (by decide +kernel) rfl)) dX1_downSteps_6 ?_
      refine kn_icmp_ge (tgt := 29) hx hb (by omega) (by omega) dX1_downSteps_9 (by decide) (fun c1 => ?_) (fun c1 => ?_)
      · skip
        refine lv_iload_n hx hb dX1_downSteps_29 rfl (lv_at hl 1 rfl) ?_
        exact W.iret (v := nI q) hx hb hr (fun t9 ht9 hW9 => ⟨_, rfl, (by rw [hq, show k = (S.2.1 j).2.2.2.2.1 by omega]), ht9⟩) (fun _ h => nomatch h) dX1_downSteps_30
      · skip
        refine lv_aload_n hx hb dX1_downSteps_12 rfl (lv_at hl 0 rfl) ?_
        refine lv_iload_n hx hb dX1_downSteps_13 rfl (lv_at hl 2 rfl) ?_
        refine kx_cr (v := bI (((S.2.1 j).2.1) k)) (va_runV (As := [.int (nI k)]) (rest := []) ⟨hx, hb, hml, hown, hts⟩ (m_X1_isDownOn l dC dI ad S j k hj (by omega)) (cwV 1 hts gX1_downSteps_X1_isDownOn rfl rfl rfl hdX1_isDownOn_1 ⟨Nat.le_of_ble_eq_true rfl, Nat.le_of_ble_eq_true rfl⟩) (hX.preOrd hj) rfl rfl hl.1 rfl (lv_room (Nat.le_of_ble_eq_true rfl)) dX1_downSteps_14 ⟨Nat.le_of_ble_eq_true rfl, Nat.le_of_ble_eq_true rfl⟩) (fun _ h => h) ?_
        refine kb_if_eq (tgt := 23) hx hb dX1_downSteps_17 (by decide) (fun c2 => ?_) (fun c2 => ?_)
        · skip
          have hc := c2
          refine lv_iinc (v := nI (k + 1)) (lv' := [(2, .int (nI (k + 1))), (0, .ref (ad (24 + 5 * j))), (1, .int (nI q))]) hx hb dX1_downSteps_23 hl (k := 2) rfl (nI_1 k) (by decide) rfl (fun ls hl => ?_)
          refine lv_goto (tgt := 4) hx hb dX1_downSteps_26 (by decide) ?_
          exact ih4  q (k + 1) (by omega) (by rw [cntB_f hc, hq]) (by omega) _ (lv_sub hl [1, 2, 0] rfl)
        · skip
          have hc := c2
          refine lv_iinc (v := nI (q + 1)) (lv' := [(1, .int (nI (q + 1))), (0, .ref (ad (24 + 5 * j))), (2, .int (nI k))]) hx hb dX1_downSteps_20 hl (k := 1) rfl (nI_1 q) (by decide) rfl (fun ls hl => ?_)
          refine lv_iinc (v := nI (k + 1)) (lv' := [(2, .int (nI (k + 1))), (1, .int (nI (q + 1))), (0, .ref (ad (24 + 5 * j)))]) hx hb dX1_downSteps_23 hl (k := 2) rfl (nI_1 k) (by decide) rfl (fun ls hl => ?_)
          refine lv_goto (tgt := 4) hx hb dX1_downSteps_26 (by decide) ?_
          exact ih4  (q + 1) (k + 1) (by omega) (by rw [cntB_t hc, hq]) (by omega) _ (lv_sub hl [2, 1, 0] rfl)
  exact loop4 ((S.2.1 j).2.2.2.2.1 + 1) 0 0 (by omega) rfl (by omega) _ (lv_sub hl [2, 1, 0] rfl)
set_option maxHeartbeats 4000000 in
set_option maxRecDepth 100000 in
theorem m_X1_reverse (l : Launch) (dC : Nat → ClassId) (dI : Nat → Nat → Nat) (ad : Nat → Nat) (S : XS) (j : Nat) (hj : j < 6) (ho : stepOK (S.2.1 j)) : Met l yX1_reverse wsX1_reverse ({ frames := 3, cells := 0, slots := 0, locals := 69 } : Room) (va_Pc [.ref (ad (24 + 5 * j))] (PX dC dI ad S)) (va_Qv (fun S' => S' = xO S j (newO (S.2.1 j).1 (ovl (fun k => !(S.2.1 j).2.1 k) (S.2.1 j).2.1 (S.2.1 j).2.2.2.2.1) (S.2.1 j).2.2.2.2.1 (S.2.1 j).2.2.1 (S.2.1 j).2.2.2.1)) (PX dC dI ad) (AX ad)) 0 0 (AX ad) := by
  refine Met.ofW (cc := cX1_reverse) (maxL := 2) (ret := none) pl_X1 rfl ?_
  intro p e s m args below meth c s₁ B hml hv
  obtain ⟨rfl, hPX⟩ := hv
  have hx := B.exec
  have hb := B.bytes
  have hr := B.returns
  have hts := atoms_spec (ws := wsX1_reverse) B.pre
  have hown : s.vm.findClass RX1 = some m.cls := findClass_of_methodNamed B.named
  have hlocks := B.notSynchronized
  have hin1 : ∀ w ∈ u_ws RX1 TX1 6, w ∈ wsX1_reverse := tu 1324 (by decide +kernel) rfl
  have hX := WX.of hPX
  have hl := lv_entry ([.ref (ad (24 + 5 * j))]) (n := 2) (Nat.le_of_ble_eq_true rfl)
  rw [lg_entry_eq]
  generalize (lg_sl ([.ref (ad (24 + 5 * j))]) ++ List.replicate (2 - (lg_sl ([.ref (ad (24 + 5 * j))])).length) Slot.unset).toArray = ls at hl ⊢
  have hl : lv_has ls 2 [(0, .ref (ad (24 + 5 * j)))] := hl
  show W p l e ({ frames := 3, cells := 0, slots := 0, locals := 69 } : Room) s m ([.ref (ad (24 + 5 * j))]).toArray below meth c s.heap [] 0 0 (MQ below (va_Qv (fun S' => S' = xO S j (newO (S.2.1 j).1 (ovl (fun k => !(S.2.1 j).2.1 k) (S.2.1 j).2.1 (S.2.1 j).2.2.2.2.1) (S.2.1 j).2.2.2.2.1 (S.2.1 j).2.2.1 (S.2.1 j).2.2.2.1)) (PX dC dI ad) (AX ad)) ([.ref (ad (24 + 5 * j))]).toArray s 0 0 (AX ad)) (F0 m 0 ls [])
  have hn := ho.1
  refine lv_iconst (v := nI 0) hx hb dX1_reverse_0 (by decide) ?_
  refine lv_istore_n (lv' := [(1, .int (nI 0)), (0, .ref (ad (24 + 5 * j)))]) hx hb dX1_reverse_1 rfl hl (by decide) rfl (fun ls hl => ?_)
  have loop2 : ∀ (fuel : Nat) (a : Nat) (ha : a ≤ (S.2.1 j).2.2.2.2.1) (H : Heap) (locs : List Loc), (S.2.1 j).2.2.2.2.1 - a < fuel → WX dC dI ad (xO S j ((S.2.1 j).1, ovl (fun k => !(S.2.1 j).2.1 k) (S.2.1 j).2.1 a, (S.2.1 j).2.2.1, (S.2.1 j).2.2.2.1, (S.2.1 j).2.2.2.2.1, (S.2.1 j).2.2.2.2.2)) (AX ad) s H locs → ∀ ls : Array Slot, lv_has ls 2 [(0, .ref (ad (24 + 5 * j))), (1, .int (nI a))] → W p l e ({ frames := 3, cells := 0, slots := 0, locals := 69 } : Room) s m ([.ref (ad (24 + 5 * j))]).toArray below meth c H locs 0 0 (MQ below (va_Qv (fun S' => S' = xO S j (newO (S.2.1 j).1 (ovl (fun k => !(S.2.1 j).2.1 k) (S.2.1 j).2.1 (S.2.1 j).2.2.2.2.1) (S.2.1 j).2.2.2.2.1 (S.2.1 j).2.2.1 (S.2.1 j).2.2.2.1)) (PX dC dI ad) (AX ad)) ([.ref (ad (24 + 5 * j))]).toArray s 0 0 (AX ad)) (F0 m 2 ls []) := by
    intro fuel
    induction fuel with
    | zero => intro a ha H locs hf; exact absurd hf (Nat.not_lt_zero _)
    | succ fuel ih2 =>
      intro a ha H locs hf hX ls hl
      refine lv_iload_n hx hb dX1_reverse_2 rfl (lv_at hl 1 rfl) ?_
      refine lv_aload_n hx hb dX1_reverse_3 rfl (lv_at hl 0 rfl) ?_
      refine ko_gn (n := (S.2.1 j).2.2.2.2.1) hx hb hts hin1 hown hX hj (by rw [xO_ord]) (hts (.fieldLink RX1 26 "Orderlattice$Order" "many" "I") (tm 37 (by decide +kernel) rfl)) dX1_reverse_4 ?_
      refine kn_icmp_ge (tgt := 45) hx hb (by omega) (by omega) dX1_reverse_7 (by decide) (fun c1 => ?_) (fun c1 => ?_)
      · skip
        refine lv_aload_n hx hb dX1_reverse_45 rfl (lv_at hl 0 rfl) ?_
        refine kx_cv (va_runV (As := []) (rest := []) ⟨hx, hb, hml, hown, hts⟩ (m_X1_settle l dC dI ad (xO S j ((S.2.1 j).1, ovl (fun k => !(S.2.1 j).2.1 k) (S.2.1 j).2.1 a, (S.2.1 j).2.2.1, (S.2.1 j).2.2.2.1, (S.2.1 j).2.2.2.2.1, (S.2.1 j).2.2.2.2.2)) j hj (by rw [xO_ord]; exact ho)) (cwV 0 hts gX1_reverse_X1_settle rfl rfl rfl hdX1_settle_0 ⟨Nat.le_of_ble_eq_true rfl, Nat.le_of_ble_eq_true rfl⟩) (hX.preOrd hj) rfl rfl hl.1 rfl (lv_room (Nat.le_of_ble_eq_true rfl)) dX1_reverse_46 ⟨Nat.le_of_ble_eq_true rfl, Nat.le_of_ble_eq_true rfl⟩) hX (fun _ h => h) (fun S_ H locs hw hX => ?_)
        rw [xO_ord, xO_xO] at hw
        dsimp only at hw
        rw [show a = (S.2.1 j).2.2.2.2.1 by omega] at hw
        subst hw
        exact W.vret hx hb hr (fun t9 ht9 hW9 => ⟨⟨(xO S j ((S.2.1 j).1, ovl (fun k => !(S.2.1 j).2.1 k) (S.2.1 j).2.1 (S.2.1 j).2.2.2.2.1, ovl (codeOf ((S.2.1 j).1) (ovl (fun k => !(S.2.1 j).2.1 k) (S.2.1 j).2.1 (S.2.1 j).2.2.2.2.1) ((S.2.1 j).2.2.2.2.1)) ((S.2.1 j).2.2.1) 16, ovl (rankC (codeOf ((S.2.1 j).1) (ovl (fun k => !(S.2.1 j).2.1 k) (S.2.1 j).2.1 (S.2.1 j).2.2.2.2.1) ((S.2.1 j).2.2.2.2.1))) ((S.2.1 j).2.2.2.1) 16, (S.2.1 j).2.2.2.2.1, classC (codeOf ((S.2.1 j).1) (ovl (fun k => !(S.2.1 j).2.1 k) (S.2.1 j).2.1 (S.2.1 j).2.2.2.2.1) ((S.2.1 j).2.2.2.2.1)))), rfl, rfl, hX.P ht9 hW9⟩, hX.2.2.2.F ht9⟩) hX.2.2.2.2.2 dX1_reverse_49
      · skip
        refine lv_iload_n hx hb dX1_reverse_10 rfl (lv_at hl 1 rfl) ?_
        refine lv_aload_n hx hb dX1_reverse_11 rfl (lv_at hl 0 rfl) ?_
        refine ko_gd hx hb hts hin1 hown hX hj (hts (.fieldLink RX1 15 "Orderlattice$Order" "downs" "[Z") (tm 33 (by decide +kernel) rfl)) dX1_reverse_12 ?_
        refine ko_nd hx hb hX hj dX1_reverse_15 ?_
        refine kn_icmp_ge (tgt := 45) hx hb (by omega) (by omega) dX1_reverse_16 (by decide) (fun c2 => absurd c2 (by omega)) (fun c2 => ?_)
        refine lv_aload_n hx hb dX1_reverse_19 rfl (lv_at hl 0 rfl) ?_
        refine ko_gd hx hb hts hin1 hown hX hj (hts (.fieldLink RX1 15 "Orderlattice$Order" "downs" "[Z") (tm 33 (by decide +kernel) rfl)) dX1_reverse_20 ?_
        refine lv_iload_n hx hb dX1_reverse_23 rfl (lv_at hl 1 rfl) ?_
        refine lv_aload_n hx hb dX1_reverse_24 rfl (lv_at hl 0 rfl) ?_
        refine ko_gd hx hb hts hin1 hown hX hj (hts (.fieldLink RX1 15 "Orderlattice$Order" "downs" "[Z") (tm 33 (by decide +kernel) rfl)) dX1_reverse_25 ?_
        refine lv_iload_n hx hb dX1_reverse_28 rfl (lv_at hl 1 rfl) ?_
        refine ko_ld (z := (ovl (fun k => !(S.2.1 j).2.1 k) (S.2.1 j).2.1 a) a) hx hb hX hj (by omega) (by rw [xO_ord]) dX1_reverse_29 ?_
        refine kb_if_ne (tgt := 37) hx hb dX1_reverse_30 (by decide) (fun c3 => ?_) (fun c3 => ?_)
        · skip
          have hc := c3
          refine lv_iconst (v := bI false) hx hb dX1_reverse_37 (by decide) ?_
          refine ko_sd (S' := (xO S j ((S.2.1 j).1, va_up (ovl (fun k => !(S.2.1 j).2.1 k) (S.2.1 j).2.1 a) a false, (S.2.1 j).2.2.1, (S.2.1 j).2.2.2.1, (S.2.1 j).2.2.2.2.1, (S.2.1 j).2.2.2.2.2))) hx hb hX hj (by omega) (by rw [xO_ord, xO_xO]) dX1_reverse_38 (fun H locs hX => ?_)
          refine lv_iinc (v := nI (a + 1)) (lv' := [(1, .int (nI (a + 1))), (0, .ref (ad (24 + 5 * j)))]) hx hb dX1_reverse_39 hl (k := 1) rfl (nI_1 a) (by decide) rfl (fun ls hl => ?_)
          refine lv_goto (tgt := 2) hx hb dX1_reverse_42 (by decide) ?_
          exact ih2  (a + 1) (by omega) _ _ (by omega) (WX.eqS (by rw [← ovl_up]; rw [ovl_out (Nat.le_refl a)] at hc; rw [hc]; rfl) hX) _ (lv_sub hl [1, 0] rfl)
        · skip
          have hc := c3
          refine lv_iconst (v := bI true) hx hb dX1_reverse_33 (by decide) ?_
          refine lv_goto (tgt := 38) hx hb dX1_reverse_34 (by decide) ?_
          refine ko_sd (S' := (xO S j ((S.2.1 j).1, va_up (ovl (fun k => !(S.2.1 j).2.1 k) (S.2.1 j).2.1 a) a true, (S.2.1 j).2.2.1, (S.2.1 j).2.2.2.1, (S.2.1 j).2.2.2.2.1, (S.2.1 j).2.2.2.2.2))) hx hb hX hj (by omega) (by rw [xO_ord, xO_xO]) dX1_reverse_38 (fun H locs hX => ?_)
          refine lv_iinc (v := nI (a + 1)) (lv' := [(1, .int (nI (a + 1))), (0, .ref (ad (24 + 5 * j)))]) hx hb dX1_reverse_39 hl (k := 1) rfl (nI_1 a) (by decide) rfl (fun ls hl => ?_)
          refine lv_goto (tgt := 2) hx hb dX1_reverse_42 (by decide) ?_
          exact ih2  (a + 1) (by omega) _ _ (by omega) (WX.eqS (by rw [← ovl_up]; rw [ovl_out (Nat.le_refl a)] at hc; rw [hc]; rfl) hX) _ (lv_sub hl [1, 0] rfl)
  exact loop2 ((S.2.1 j).2.2.2.2.1 - 0 + 1) 0 (by omega) _ _ (by omega) (WX.eqS (by rw [ovl_0]; exact (xO_self S j).symm) hX) _ (lv_sub hl [1, 0] rfl)
set_option maxHeartbeats 4000000 in
set_option maxRecDepth 100000 in
theorem m_X1_becomeCopyOf (l : Launch) (dC : Nat → ClassId) (dI : Nat → Nat → Nat) (ad : Nat → Nat) (S : XS) (j t : Nat) (hj : j < 6) (ht : t < 6) (ho : stepOK (S.2.1 j)) (ho2 : stepOK (S.2.1 t)) : Met l yX1_becomeCopyOf wsX1_becomeCopyOf ({ frames := 3, cells := 0, slots := 0, locals := 69 } : Room) (va_Pc [.ref (ad (24 + 5 * j)), .ref (ad (24 + 5 * t))] (PX dC dI ad S)) (va_Qv (fun S' => S' = xO S j (newO (apn (S.2.1 j).1 (S.2.1 t).1 0 (S.2.1 t).2.2.2.2.1) (apn (S.2.1 j).2.1 (S.2.1 t).2.1 0 (S.2.1 t).2.2.2.2.1) (S.2.1 t).2.2.2.2.1 (S.2.1 j).2.2.1 (S.2.1 j).2.2.2.1)) (PX dC dI ad) (AX ad)) 0 0 (AX ad) := by
  refine Met.ofW (cc := cX1_becomeCopyOf) (maxL := 3) (ret := none) pl_X1 rfl ?_
  intro p e s m args below meth c s₁ B hml hv
  obtain ⟨rfl, hPX⟩ := hv
  have hx := B.exec
  have hb := B.bytes
  have hr := B.returns
  have hts := atoms_spec (ws := wsX1_becomeCopyOf) B.pre
  have hown : s.vm.findClass RX1 = some m.cls := findClass_of_methodNamed B.named
  have hlocks := B.notSynchronized
  have hin1 : ∀ w ∈ u_ws RX1 TX1 6, w ∈ wsX1_becomeCopyOf := tu 1324 (by decide +kernel) rfl
  have hX := WX.of hPX
  have hl := lv_entry ([.ref (ad (24 + 5 * j)), .ref (ad (24 + 5 * t))]) (n := 3) (Nat.le_of_ble_eq_true rfl)
  rw [lg_entry_eq]
  generalize (lg_sl ([.ref (ad (24 + 5 * j)), .ref (ad (24 + 5 * t))]) ++ List.replicate (3 - (lg_sl ([.ref (ad (24 + 5 * j)), .ref (ad (24 + 5 * t))])).length) Slot.unset).toArray = ls at hl ⊢
  have hl : lv_has ls 3 [(0, .ref (ad (24 + 5 * j))), (1, .ref (ad (24 + 5 * t)))] := hl
  show W p l e ({ frames := 3, cells := 0, slots := 0, locals := 69 } : Room) s m ([.ref (ad (24 + 5 * j)), .ref (ad (24 + 5 * t))]).toArray below meth c s.heap [] 0 0 (MQ below (va_Qv (fun S' => S' = xO S j (newO (apn (S.2.1 j).1 (S.2.1 t).1 0 (S.2.1 t).2.2.2.2.1) (apn (S.2.1 j).2.1 (S.2.1 t).2.1 0 (S.2.1 t).2.2.2.2.1) (S.2.1 t).2.2.2.2.1 (S.2.1 j).2.2.1 (S.2.1 j).2.2.2.1)) (PX dC dI ad) (AX ad)) ([.ref (ad (24 + 5 * j)), .ref (ad (24 + 5 * t))]).toArray s 0 0 (AX ad)) (F0 m 0 ls [])
  have hn := ho2.1
  refine lv_aload_n hx hb dX1_becomeCopyOf_0 rfl (lv_at hl 1 rfl) ?_
  refine kx_cr (v := nI ((S.2.1 t).2.2.2.2.1)) (va_runV (As := []) (rest := []) ⟨hx, hb, hml, hown, hts⟩ (m_X1_length l dC dI ad S t  ht) (cwV 0 hts gX1_becomeCopyOf_X1_length rfl rfl rfl hdX1_length_0 ⟨Nat.le_of_ble_eq_true rfl, Nat.le_of_ble_eq_true rfl⟩) (hX.preOrd ht) rfl rfl hl.1 rfl (lv_room (Nat.le_of_ble_eq_true rfl)) dX1_becomeCopyOf_1 ⟨Nat.le_of_ble_eq_true rfl, Nat.le_of_ble_eq_true rfl⟩) (fun _ h => h) ?_
  refine lv_istore_n (lv' := [(2, .int (nI ((S.2.1 t).2.2.2.2.1))), (0, .ref (ad (24 + 5 * j))), (1, .ref (ad (24 + 5 * t)))]) hx hb dX1_becomeCopyOf_4 rfl hl (by decide) rfl (fun ls hl => ?_)
  refine lv_aload_n hx hb dX1_becomeCopyOf_5 rfl (lv_at hl 1 rfl) ?_
  refine lv_iconst (v := nI 0) hx hb dX1_becomeCopyOf_6 (by decide) ?_
  refine ko_pn (S' := (xO S j ((S.2.1 j).1, (S.2.1 j).2.1, (S.2.1 j).2.2.1, (S.2.1 j).2.2.2.1, 0, (S.2.1 j).2.2.2.2.2))) hx hb hts hin1 hown hX hj rfl (hts (.fieldLink RX1 26 "Orderlattice$Order" "many" "I") (tm 37 (by decide +kernel) rfl)) dX1_becomeCopyOf_7 (fun H locs hX => ?_)
  refine lv_aload_n hx hb dX1_becomeCopyOf_10 rfl (lv_at hl 1 rfl) ?_
  refine lv_aload_n hx hb dX1_becomeCopyOf_11 rfl (lv_at hl 2 rfl) ?_
  refine lv_iload_n hx hb dX1_becomeCopyOf_12 rfl (lv_at hl 0 rfl) ?_
  refine kx_cv (va_runV (As := [.ref (ad (24 + 5 * t)), .int (nI ((S.2.1 t).2.2.2.2.1))]) (rest := []) ⟨hx, hb, hml, hown, hts⟩ (m_X1_addSteps l dC dI ad (xO S j ((S.2.1 j).1, (S.2.1 j).2.1, (S.2.1 j).2.2.1, (S.2.1 j).2.2.2.1, 0, (S.2.1 j).2.2.2.2.2)) j t ((S.2.1 t).2.2.2.2.1) hj ht (by omega) (by rw [xO_ord]; dsimp only; omega) (fun _ => by rw [xO_ord])) (cwV 2 hts gX1_becomeCopyOf_X1_addSteps rfl rfl rfl hdX1_addSteps_2 ⟨Nat.le_of_ble_eq_true rfl, Nat.le_of_ble_eq_true rfl⟩) (hX.preOrd hj) rfl rfl hl.1 rfl (lv_room (Nat.le_of_ble_eq_true rfl)) dX1_becomeCopyOf_13 ⟨Nat.le_of_ble_eq_true rfl, Nat.le_of_ble_eq_true rfl⟩) hX (fun _ h => h) (fun S_ H locs hw hX => ?_)
  rw [xO_ord, xO_xO] at hw
  dsimp only at hw
  rw [xO_src1, xO_src2, Nat.zero_add] at hw
  subst hw
  refine lv_aload_n hx hb dX1_becomeCopyOf_16 rfl (lv_at hl 1 rfl) ?_
  refine kx_cv (va_runV (As := []) (rest := []) ⟨hx, hb, hml, hown, hts⟩ (m_X1_settle l dC dI ad (xO S j (apn ((S.2.1 j).1) ((S.2.1 t).1) 0 ((S.2.1 t).2.2.2.2.1), apn ((S.2.1 j).2.1) ((S.2.1 t).2.1) 0 ((S.2.1 t).2.2.2.2.1), (S.2.1 j).2.2.1, (S.2.1 j).2.2.2.1, (S.2.1 t).2.2.2.2.1, (S.2.1 j).2.2.2.2.2)) j hj (by rw [xO_ord]; exact stepOK_apn0 ho ho2)) (cwV 0 hts gX1_becomeCopyOf_X1_settle rfl rfl rfl hdX1_settle_0 ⟨Nat.le_of_ble_eq_true rfl, Nat.le_of_ble_eq_true rfl⟩) (hX.preOrd hj) rfl rfl hl.1 rfl (lv_room (Nat.le_of_ble_eq_true rfl)) dX1_becomeCopyOf_17 ⟨Nat.le_of_ble_eq_true rfl, Nat.le_of_ble_eq_true rfl⟩) hX (fun _ h => h) (fun S_ H locs hw hX => ?_)
  rw [xO_ord, xO_xO] at hw
  subst hw
  exact W.vret hx hb hr (fun t9 ht9 hW9 => ⟨⟨(xO S j (apn ((S.2.1 j).1) ((S.2.1 t).1) 0 ((S.2.1 t).2.2.2.2.1), apn ((S.2.1 j).2.1) ((S.2.1 t).2.1) 0 ((S.2.1 t).2.2.2.2.1), ovl (codeOf (apn ((S.2.1 j).1) ((S.2.1 t).1) 0 ((S.2.1 t).2.2.2.2.1)) (apn ((S.2.1 j).2.1) ((S.2.1 t).2.1) 0 ((S.2.1 t).2.2.2.2.1)) ((S.2.1 t).2.2.2.2.1)) ((S.2.1 j).2.2.1) 16, ovl (rankC (codeOf (apn ((S.2.1 j).1) ((S.2.1 t).1) 0 ((S.2.1 t).2.2.2.2.1)) (apn ((S.2.1 j).2.1) ((S.2.1 t).2.1) 0 ((S.2.1 t).2.2.2.2.1)) ((S.2.1 t).2.2.2.2.1))) ((S.2.1 j).2.2.2.1) 16, (S.2.1 t).2.2.2.2.1, classC (codeOf (apn ((S.2.1 j).1) ((S.2.1 t).1) 0 ((S.2.1 t).2.2.2.2.1)) (apn ((S.2.1 j).2.1) ((S.2.1 t).2.1) 0 ((S.2.1 t).2.2.2.2.1)) ((S.2.1 t).2.2.2.2.1)))), rfl, rfl, hX.P ht9 hW9⟩, hX.2.2.2.F ht9⟩) hX.2.2.2.2.2 dX1_becomeCopyOf_20
set_option maxHeartbeats 4000000 in
set_option maxRecDepth 100000 in
theorem m_X1_becomeProductOf (l : Launch) (dC : Nat → ClassId) (dI : Nat → Nat → Nat) (ad : Nat → Nat) (S : XS) (j i t : Nat) (hj : j < 6) (hi : i < 6) (ht : t < 6) (ho : stepOK (S.2.1 j)) (ho2 : stepOK (S.2.1 i)) (ho3 : stepOK (S.2.1 t)) (hij : i ≠ j) (htj : t ≠ j) (hnn : (S.2.1 i).2.2.2.2.1 + (S.2.1 t).2.2.2.2.1 ≤ 10) : Met l yX1_becomeProductOf wsX1_becomeProductOf ({ frames := 3, cells := 0, slots := 0, locals := 69 } : Room) (va_Pc [.ref (ad (24 + 5 * j)), .ref (ad (24 + 5 * i)), .ref (ad (24 + 5 * t))] (PX dC dI ad S)) (va_Qv (fun S' => S' = xO S j (newO (apn (apn ((S.2.1 j).1) ((S.2.1 i).1) 0 ((S.2.1 i).2.2.2.2.1)) (S.2.1 t).1 (S.2.1 i).2.2.2.2.1 (S.2.1 t).2.2.2.2.1) (apn (apn ((S.2.1 j).2.1) ((S.2.1 i).2.1) 0 ((S.2.1 i).2.2.2.2.1)) (S.2.1 t).2.1 (S.2.1 i).2.2.2.2.1 (S.2.1 t).2.2.2.2.1) ((S.2.1 i).2.2.2.2.1 + (S.2.1 t).2.2.2.2.1) (S.2.1 j).2.2.1 (S.2.1 j).2.2.2.1)) (PX dC dI ad) (AX ad)) 0 0 (AX ad) := by
  refine Met.ofW (cc := cX1_becomeProductOf) (maxL := 3) (ret := none) pl_X1 rfl ?_
  intro p e s m args below meth c s₁ B hml hv
  obtain ⟨rfl, hPX⟩ := hv
  have hx := B.exec
  have hb := B.bytes
  have hr := B.returns
  have hts := atoms_spec (ws := wsX1_becomeProductOf) B.pre
  have hown : s.vm.findClass RX1 = some m.cls := findClass_of_methodNamed B.named
  have hlocks := B.notSynchronized
  have hin1 : ∀ w ∈ u_ws RX1 TX1 6, w ∈ wsX1_becomeProductOf := tu 1324 (by decide +kernel) rfl
  have hX := WX.of hPX
  have hl := lv_entry ([.ref (ad (24 + 5 * j)), .ref (ad (24 + 5 * i)), .ref (ad (24 + 5 * t))]) (n := 3) (Nat.le_of_ble_eq_true rfl)
  rw [lg_entry_eq]
  generalize (lg_sl ([.ref (ad (24 + 5 * j)), .ref (ad (24 + 5 * i)), .ref (ad (24 + 5 * t))]) ++ List.replicate (3 - (lg_sl ([.ref (ad (24 + 5 * j)), .ref (ad (24 + 5 * i)), .ref (ad (24 + 5 * t))])).length) Slot.unset).toArray = ls at hl ⊢
  have hl : lv_has ls 3 [(0, .ref (ad (24 + 5 * j))), (1, .ref (ad (24 + 5 * i))), (2, .ref (ad (24 + 5 * t)))] := hl
  show W p l e ({ frames := 3, cells := 0, slots := 0, locals := 69 } : Room) s m ([.ref (ad (24 + 5 * j)), .ref (ad (24 + 5 * i)), .ref (ad (24 + 5 * t))]).toArray below meth c s.heap [] 0 0 (MQ below (va_Qv (fun S' => S' = xO S j (newO (apn (apn ((S.2.1 j).1) ((S.2.1 i).1) 0 ((S.2.1 i).2.2.2.2.1)) (S.2.1 t).1 (S.2.1 i).2.2.2.2.1 (S.2.1 t).2.2.2.2.1) (apn (apn ((S.2.1 j).2.1) ((S.2.1 i).2.1) 0 ((S.2.1 i).2.2.2.2.1)) (S.2.1 t).2.1 (S.2.1 i).2.2.2.2.1 (S.2.1 t).2.2.2.2.1) ((S.2.1 i).2.2.2.2.1 + (S.2.1 t).2.2.2.2.1) (S.2.1 j).2.2.1 (S.2.1 j).2.2.2.1)) (PX dC dI ad) (AX ad)) ([.ref (ad (24 + 5 * j)), .ref (ad (24 + 5 * i)), .ref (ad (24 + 5 * t))]).toArray s 0 0 (AX ad)) (F0 m 0 ls [])
  refine lv_aload_n hx hb dX1_becomeProductOf_0 rfl (lv_at hl 0 rfl) ?_
  refine lv_iconst (v := nI 0) hx hb dX1_becomeProductOf_1 (by decide) ?_
  refine ko_pn (S' := (xO S j ((S.2.1 j).1, (S.2.1 j).2.1, (S.2.1 j).2.2.1, (S.2.1 j).2.2.2.1, 0, (S.2.1 j).2.2.2.2.2))) hx hb hts hin1 hown hX hj rfl (hts (.fieldLink RX1 26 "Orderlattice$Order" "many" "I") (tm 37 (by decide +kernel) rfl)) dX1_becomeProductOf_2 (fun H locs hX => ?_)
  refine lv_aload_n hx hb dX1_becomeProductOf_5 rfl (lv_at hl 0 rfl) ?_
  refine lv_aload_n hx hb dX1_becomeProductOf_6 rfl (lv_at hl 1 rfl) ?_
  refine lv_aload_n hx hb dX1_becomeProductOf_7 rfl (lv_at hl 1 rfl) ?_
  refine kx_cr (v := nI ((S.2.1 i).2.2.2.2.1)) (va_runV (As := []) (rest := [.ref (ad (24 + 5 * i)), .ref (ad (24 + 5 * j))]) ⟨hx, hb, hml, hown, hts⟩ (m_X1_length l dC dI ad (xO S j ((S.2.1 j).1, (S.2.1 j).2.1, (S.2.1 j).2.2.1, (S.2.1 j).2.2.2.1, 0, (S.2.1 j).2.2.2.2.2)) i  hi) (cwV 0 hts gX1_becomeProductOf_X1_length rfl rfl rfl hdX1_length_0 ⟨Nat.le_of_ble_eq_true rfl, Nat.le_of_ble_eq_true rfl⟩) (hX.preOrd hi) rfl rfl hl.1 rfl (lv_room (Nat.le_of_ble_eq_true rfl)) dX1_becomeProductOf_8 ⟨Nat.le_of_ble_eq_true rfl, Nat.le_of_ble_eq_true rfl⟩) (fun _ h => by rw [h, xO_ne _ _ hij]) ?_
  refine kx_cv (va_runV (As := [.ref (ad (24 + 5 * i)), .int (nI ((S.2.1 i).2.2.2.2.1))]) (rest := []) ⟨hx, hb, hml, hown, hts⟩ (m_X1_addSteps l dC dI ad (xO S j ((S.2.1 j).1, (S.2.1 j).2.1, (S.2.1 j).2.2.1, (S.2.1 j).2.2.2.1, 0, (S.2.1 j).2.2.2.2.2)) j i ((S.2.1 i).2.2.2.2.1) hj hi (by omega) (by rw [xO_ord]; dsimp only; omega) (fun h => absurd h hij)) (cwV 2 hts gX1_becomeProductOf_X1_addSteps rfl rfl rfl hdX1_addSteps_2 ⟨Nat.le_of_ble_eq_true rfl, Nat.le_of_ble_eq_true rfl⟩) (hX.preOrd hj) rfl rfl hl.1 rfl (lv_room (Nat.le_of_ble_eq_true rfl)) dX1_becomeProductOf_11 ⟨Nat.le_of_ble_eq_true rfl, Nat.le_of_ble_eq_true rfl⟩) hX (fun _ h => h) (fun S_ H locs hw hX => ?_)
  rw [xO_ord, xO_xO] at hw
  dsimp only at hw
  rw [xO_ne _ _ hij, Nat.zero_add] at hw
  subst hw
  refine lv_aload_n hx hb dX1_becomeProductOf_14 rfl (lv_at hl 0 rfl) ?_
  refine lv_aload_n hx hb dX1_becomeProductOf_15 rfl (lv_at hl 2 rfl) ?_
  refine lv_aload_n hx hb dX1_becomeProductOf_16 rfl (lv_at hl 2 rfl) ?_
  refine kx_cr (v := nI ((S.2.1 t).2.2.2.2.1)) (va_runV (As := []) (rest := [.ref (ad (24 + 5 * t)), .ref (ad (24 + 5 * j))]) ⟨hx, hb, hml, hown, hts⟩ (m_X1_length l dC dI ad (xO S j (apn ((S.2.1 j).1) ((S.2.1 i).1) 0 ((S.2.1 i).2.2.2.2.1), apn ((S.2.1 j).2.1) ((S.2.1 i).2.1) 0 ((S.2.1 i).2.2.2.2.1), (S.2.1 j).2.2.1, (S.2.1 j).2.2.2.1, (S.2.1 i).2.2.2.2.1, (S.2.1 j).2.2.2.2.2)) t  ht) (cwV 0 hts gX1_becomeProductOf_X1_length rfl rfl rfl hdX1_length_0 ⟨Nat.le_of_ble_eq_true rfl, Nat.le_of_ble_eq_true rfl⟩) (hX.preOrd ht) rfl rfl hl.1 rfl (lv_room (Nat.le_of_ble_eq_true rfl)) dX1_becomeProductOf_17 ⟨Nat.le_of_ble_eq_true rfl, Nat.le_of_ble_eq_true rfl⟩) (fun _ h => by rw [h, xO_ne _ _ htj]) ?_
  refine kx_cv (va_runV (As := [.ref (ad (24 + 5 * t)), .int (nI ((S.2.1 t).2.2.2.2.1))]) (rest := []) ⟨hx, hb, hml, hown, hts⟩ (m_X1_addSteps l dC dI ad (xO S j (apn ((S.2.1 j).1) ((S.2.1 i).1) 0 ((S.2.1 i).2.2.2.2.1), apn ((S.2.1 j).2.1) ((S.2.1 i).2.1) 0 ((S.2.1 i).2.2.2.2.1), (S.2.1 j).2.2.1, (S.2.1 j).2.2.2.1, (S.2.1 i).2.2.2.2.1, (S.2.1 j).2.2.2.2.2)) j t ((S.2.1 t).2.2.2.2.1) hj ht (by omega) (by rw [xO_ord]; dsimp only; omega) (fun h => absurd h htj)) (cwV 2 hts gX1_becomeProductOf_X1_addSteps rfl rfl rfl hdX1_addSteps_2 ⟨Nat.le_of_ble_eq_true rfl, Nat.le_of_ble_eq_true rfl⟩) (hX.preOrd hj) rfl rfl hl.1 rfl (lv_room (Nat.le_of_ble_eq_true rfl)) dX1_becomeProductOf_20 ⟨Nat.le_of_ble_eq_true rfl, Nat.le_of_ble_eq_true rfl⟩) hX (fun _ h => h) (fun S_ H locs hw hX => ?_)
  rw [xO_ord, xO_xO] at hw
  dsimp only at hw
  rw [xO_ne _ _ htj] at hw
  subst hw
  refine lv_aload_n hx hb dX1_becomeProductOf_23 rfl (lv_at hl 0 rfl) ?_
  refine kx_cv (va_runV (As := []) (rest := []) ⟨hx, hb, hml, hown, hts⟩ (m_X1_settle l dC dI ad (xO S j (apn (apn ((S.2.1 j).1) ((S.2.1 i).1) 0 ((S.2.1 i).2.2.2.2.1)) ((S.2.1 t).1) ((S.2.1 i).2.2.2.2.1) ((S.2.1 t).2.2.2.2.1), apn (apn ((S.2.1 j).2.1) ((S.2.1 i).2.1) 0 ((S.2.1 i).2.2.2.2.1)) ((S.2.1 t).2.1) ((S.2.1 i).2.2.2.2.1) ((S.2.1 t).2.2.2.2.1), (S.2.1 j).2.2.1, (S.2.1 j).2.2.2.1, (S.2.1 i).2.2.2.2.1 + (S.2.1 t).2.2.2.2.1, (S.2.1 j).2.2.2.2.2)) j hj (by rw [xO_ord]; exact stepOK_apn2 ho ho2 ho3 hnn)) (cwV 0 hts gX1_becomeProductOf_X1_settle rfl rfl rfl hdX1_settle_0 ⟨Nat.le_of_ble_eq_true rfl, Nat.le_of_ble_eq_true rfl⟩) (hX.preOrd hj) rfl rfl hl.1 rfl (lv_room (Nat.le_of_ble_eq_true rfl)) dX1_becomeProductOf_24 ⟨Nat.le_of_ble_eq_true rfl, Nat.le_of_ble_eq_true rfl⟩) hX (fun _ h => h) (fun S_ H locs hw hX => ?_)
  rw [xO_ord, xO_xO] at hw
  subst hw
  exact W.vret hx hb hr (fun t9 ht9 hW9 => ⟨⟨(xO S j (apn (apn ((S.2.1 j).1) ((S.2.1 i).1) 0 ((S.2.1 i).2.2.2.2.1)) ((S.2.1 t).1) ((S.2.1 i).2.2.2.2.1) ((S.2.1 t).2.2.2.2.1), apn (apn ((S.2.1 j).2.1) ((S.2.1 i).2.1) 0 ((S.2.1 i).2.2.2.2.1)) ((S.2.1 t).2.1) ((S.2.1 i).2.2.2.2.1) ((S.2.1 t).2.2.2.2.1), ovl (codeOf (apn (apn ((S.2.1 j).1) ((S.2.1 i).1) 0 ((S.2.1 i).2.2.2.2.1)) ((S.2.1 t).1) ((S.2.1 i).2.2.2.2.1) ((S.2.1 t).2.2.2.2.1)) (apn (apn ((S.2.1 j).2.1) ((S.2.1 i).2.1) 0 ((S.2.1 i).2.2.2.2.1)) ((S.2.1 t).2.1) ((S.2.1 i).2.2.2.2.1) ((S.2.1 t).2.2.2.2.1)) ((S.2.1 i).2.2.2.2.1 + (S.2.1 t).2.2.2.2.1)) ((S.2.1 j).2.2.1) 16, ovl (rankC (codeOf (apn (apn ((S.2.1 j).1) ((S.2.1 i).1) 0 ((S.2.1 i).2.2.2.2.1)) ((S.2.1 t).1) ((S.2.1 i).2.2.2.2.1) ((S.2.1 t).2.2.2.2.1)) (apn (apn ((S.2.1 j).2.1) ((S.2.1 i).2.1) 0 ((S.2.1 i).2.2.2.2.1)) ((S.2.1 t).2.1) ((S.2.1 i).2.2.2.2.1) ((S.2.1 t).2.2.2.2.1)) ((S.2.1 i).2.2.2.2.1 + (S.2.1 t).2.2.2.2.1))) ((S.2.1 j).2.2.2.1) 16, (S.2.1 i).2.2.2.2.1 + (S.2.1 t).2.2.2.2.1, classC (codeOf (apn (apn ((S.2.1 j).1) ((S.2.1 i).1) 0 ((S.2.1 i).2.2.2.2.1)) ((S.2.1 t).1) ((S.2.1 i).2.2.2.2.1) ((S.2.1 t).2.2.2.2.1)) (apn (apn ((S.2.1 j).2.1) ((S.2.1 i).2.1) 0 ((S.2.1 i).2.2.2.2.1)) ((S.2.1 t).2.1) ((S.2.1 i).2.2.2.2.1) ((S.2.1 t).2.2.2.2.1)) ((S.2.1 i).2.2.2.2.1 + (S.2.1 t).2.2.2.2.1)))), rfl, rfl, hX.P ht9 hW9⟩, hX.2.2.2.F ht9⟩) hX.2.2.2.2.2 dX1_becomeProductOf_27
end
