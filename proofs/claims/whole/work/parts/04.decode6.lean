set_option maxRecDepth 20000 in
theorem ggX0_of_J0_indexOf_0f7a4 : GoodIn wsX0_of wsJ0_indexOf_0f7a4 := goodIn_r _ [5, 6, 7, 8, 4, 9, 10, 11, 12, 13, 14, 15, 16, 17, 18, 19, 20, 21, 22, 23, 24, 25, 26, 27, 28, 29, 30, 31, 32, 33, 34, 35, 36, 37, 38, 39, 40, 41, 42, 43, 44, 45, 46, 47, 48, 49, 50, 51, 52, 53, 54, 55, 56, 57, 58, 59, 60, 61, 62, 63, 64, 65, 66, 67, 68, 69, 70, 71, 72, 73, 74, 75, 76, 77, 78, 79, 80, 81, 82, 83, 84, 85, 86, 87, 88, 89] (by decide +kernel) (by decide +kernel)
set_option maxRecDepth 20000 in
theorem gX0_of_J0_indexOf_0f7a4 : GoodIn wsX0_of (wsV RX0 11 RJ0 yJ0_indexOf_0f7a4 wsJ0_indexOf_0f7a4) := goodIn_app (goodIn_of _ (by decide +kernel)) ggX0_of_J0_indexOf_0f7a4
theorem dX0_of_0 : decode cX0_of 0 = .ok (.ldc 9, 2) := by decide +kernel
theorem dX0_of_2 : decode cX0_of 2 = .ok (.iload_n 0, 1) := by decide +kernel
theorem dX0_of_3 : decode cX0_of 3 = .ok (.invokevirtual 11, 3) := by decide +kernel
theorem dX0_of_6 : decode cX0_of 6 = .ok (.ireturn, 1) := by decide +kernel
theorem dX0_weight_0 : decode cX0_weight 0 = .ok (.iload_n 0, 1) := by decide +kernel
theorem dX0_weight_1 : decode cX0_weight 1 = .ok (.tableswitch 44 3 6 #[31, 44, 36, 31], 31) := by decide +kernel
theorem dX0_weight_32 : decode cX0_weight 32 = .ok (.bipush 14, 2) := by decide +kernel
theorem dX0_weight_34 : decode cX0_weight 34 = .ok (.iload_n 1, 1) := by decide +kernel
theorem dX0_weight_35 : decode cX0_weight 35 = .ok (.imul, 1) := by decide +kernel
theorem dX0_weight_36 : decode cX0_weight 36 = .ok (.ireturn, 1) := by decide +kernel
theorem dX0_weight_37 : decode cX0_weight 37 = .ok (.bipush 10, 2) := by decide +kernel
theorem dX0_weight_39 : decode cX0_weight 39 = .ok (.iload_n 1, 1) := by decide +kernel
theorem dX0_weight_40 : decode cX0_weight 40 = .ok (.imul, 1) := by decide +kernel
theorem dX0_weight_41 : decode cX0_weight 41 = .ok (.bipush 60, 2) := by decide +kernel
theorem dX0_weight_43 : decode cX0_weight 43 = .ok (.iadd, 1) := by decide +kernel
theorem dX0_weight_44 : decode cX0_weight 44 = .ok (.ireturn, 1) := by decide +kernel
theorem dX0_weight_45 : decode cX0_weight 45 = .ok (.bipush 10, 2) := by decide +kernel
theorem dX0_weight_47 : decode cX0_weight 47 = .ok (.iload_n 1, 1) := by decide +kernel
theorem dX0_weight_48 : decode cX0_weight 48 = .ok (.imul, 1) := by decide +kernel
theorem dX0_weight_49 : decode cX0_weight 49 = .ok (.ireturn, 1) := by decide +kernel
theorem dX0_binding_0 : decode cX0_binding 0 = .ok (.iload_n 0, 1) := by decide +kernel
theorem dX0_binding_1 : decode cX0_binding 1 = .ok (.tableswitch 68 1 6 #[39, 49, 68, 55, 39, 44], 39) := by decide +kernel
theorem dX0_binding_40 : decode cX0_binding 40 = .ok (.bipush 8, 2) := by decide +kernel
theorem dX0_binding_42 : decode cX0_binding 42 = .ok (.iload_n 1, 1) := by decide +kernel
theorem dX0_binding_43 : decode cX0_binding 43 = .ok (.imul, 1) := by decide +kernel
theorem dX0_binding_44 : decode cX0_binding 44 = .ok (.ireturn, 1) := by decide +kernel
theorem dX0_binding_45 : decode cX0_binding 45 = .ok (.bipush 7, 2) := by decide +kernel
theorem dX0_binding_47 : decode cX0_binding 47 = .ok (.iload_n 1, 1) := by decide +kernel
theorem dX0_binding_48 : decode cX0_binding 48 = .ok (.imul, 1) := by decide +kernel
theorem dX0_binding_49 : decode cX0_binding 49 = .ok (.ireturn, 1) := by decide +kernel
theorem dX0_binding_50 : decode cX0_binding 50 = .ok (.iconst 5, 1) := by decide +kernel
theorem dX0_binding_51 : decode cX0_binding 51 = .ok (.iload_n 1, 1) := by decide +kernel
theorem dX0_binding_52 : decode cX0_binding 52 = .ok (.imul, 1) := by decide +kernel
theorem dX0_binding_53 : decode cX0_binding 53 = .ok (.iconst 2, 1) := by decide +kernel
theorem dX0_binding_54 : decode cX0_binding 54 = .ok (.idiv, 1) := by decide +kernel
theorem dX0_binding_55 : decode cX0_binding 55 = .ok (.ireturn, 1) := by decide +kernel
theorem dX0_binding_56 : decode cX0_binding 56 = .ok (.iconst 0, 1) := by decide +kernel
theorem dX0_binding_57 : decode cX0_binding 57 = .ok (.iconst 5, 1) := by decide +kernel
theorem dX0_binding_58 : decode cX0_binding 58 = .ok (.iload_n 1, 1) := by decide +kernel
theorem dX0_binding_59 : decode cX0_binding 59 = .ok (.imul, 1) := by decide +kernel
theorem dX0_binding_60 : decode cX0_binding 60 = .ok (.iconst 2, 1) := by decide +kernel
theorem dX0_binding_61 : decode cX0_binding 61 = .ok (.idiv, 1) := by decide +kernel
theorem dX0_binding_62 : decode cX0_binding 62 = .ok (.bipush 10, 2) := by decide +kernel
theorem dX0_binding_64 : decode cX0_binding 64 = .ok (.isub, 1) := by decide +kernel
theorem dX0_binding_65 : decode cX0_binding 65 = .ok (.invokestatic 17, 3) := by decide +kernel
theorem dX0_binding_68 : decode cX0_binding 68 = .ok (.ireturn, 1) := by decide +kernel
theorem dX0_binding_69 : decode cX0_binding 69 = .ok (.iconst 5, 1) := by decide +kernel
theorem dX0_binding_70 : decode cX0_binding 70 = .ok (.iload_n 1, 1) := by decide +kernel
theorem dX0_binding_71 : decode cX0_binding 71 = .ok (.imul, 1) := by decide +kernel
theorem dX0_binding_72 : decode cX0_binding 72 = .ok (.ireturn, 1) := by decide +kernel
theorem dX0_thickness_0 : decode cX0_thickness 0 = .ok (.iload_n 0, 1) := by decide +kernel
theorem dX0_thickness_1 : decode cX0_thickness 1 = .ok (.tableswitch 41 2 6 #[35, 38, 35, 41, 38], 35) := by decide +kernel
theorem dX0_thickness_36 : decode cX0_thickness 36 = .ok (.bipush 11, 2) := by decide +kernel
theorem dX0_thickness_38 : decode cX0_thickness 38 = .ok (.ireturn, 1) := by decide +kernel
theorem dX0_thickness_39 : decode cX0_thickness 39 = .ok (.bipush 8, 2) := by decide +kernel
theorem dX0_thickness_41 : decode cX0_thickness 41 = .ok (.ireturn, 1) := by decide +kernel
theorem dX0_thickness_42 : decode cX0_thickness 42 = .ok (.bipush 9, 2) := by decide +kernel
theorem dX0_thickness_44 : decode cX0_thickness 44 = .ok (.ireturn, 1) := by decide +kernel
theorem dX1_init_0 : decode cX1_init 0 = .ok (.aload_n 0, 1) := by decide +kernel
theorem dX1_init_1 : decode cX1_init 1 = .ok (.invokespecial 3, 3) := by decide +kernel
theorem dX1_init_4 : decode cX1_init 4 = .ok (.aload_n 0, 1) := by decide +kernel
theorem dX1_init_5 : decode cX1_init 5 = .ok (.bipush 96, 2) := by decide +kernel
theorem dX1_init_7 : decode cX1_init 7 = .ok (.newarray .char, 2) := by decide +kernel
theorem dX1_init_9 : decode cX1_init 9 = .ok (.putfield 9, 3) := by decide +kernel
theorem dX1_init_12 : decode cX1_init 12 = .ok (.aload_n 0, 1) := by decide +kernel
theorem dX1_init_13 : decode cX1_init 13 = .ok (.iconst 0, 1) := by decide +kernel
theorem dX1_init_14 : decode cX1_init 14 = .ok (.putfield 15, 3) := by decide +kernel
theorem dX1_init_17 : decode cX1_init 17 = .ok (.return_, 1) := by decide +kernel
theorem dX1_add_0 : decode cX1_add 0 = .ok (.aload_n 0, 1) := by decide +kernel
theorem dX1_add_1 : decode cX1_add 1 = .ok (.getfield 15, 3) := by decide +kernel
theorem dX1_add_4 : decode cX1_add 4 = .ok (.aload_n 0, 1) := by decide +kernel
theorem dX1_add_5 : decode cX1_add 5 = .ok (.getfield 9, 3) := by decide +kernel
theorem dX1_add_8 : decode cX1_add 8 = .ok (.arraylength, 1) := by decide +kernel
theorem dX1_add_9 : decode cX1_add 9 = .ok (.if_icmp .ge 23, 3) := by decide +kernel
theorem dX1_add_12 : decode cX1_add 12 = .ok (.aload_n 0, 1) := by decide +kernel
theorem dX1_add_13 : decode cX1_add 13 = .ok (.getfield 9, 3) := by decide +kernel
theorem dX1_add_16 : decode cX1_add 16 = .ok (.aload_n 0, 1) := by decide +kernel
theorem dX1_add_17 : decode cX1_add 17 = .ok (.getfield 15, 3) := by decide +kernel
theorem dX1_add_20 : decode cX1_add 20 = .ok (.iload_n 1, 1) := by decide +kernel
theorem dX1_add_21 : decode cX1_add 21 = .ok (.castore, 1) := by decide +kernel
theorem dX1_add_22 : decode cX1_add 22 = .ok (.aload_n 0, 1) := by decide +kernel
theorem dX1_add_23 : decode cX1_add 23 = .ok (.dup, 1) := by decide +kernel
theorem dX1_add_24 : decode cX1_add 24 = .ok (.getfield 15, 3) := by decide +kernel
theorem dX1_add_27 : decode cX1_add 27 = .ok (.iconst 1, 1) := by decide +kernel
theorem dX1_add_28 : decode cX1_add 28 = .ok (.iadd, 1) := by decide +kernel
theorem dX1_add_29 : decode cX1_add 29 = .ok (.putfield 15, 3) := by decide +kernel
theorem dX1_add_32 : decode cX1_add 32 = .ok (.return_, 1) := by decide +kernel
theorem dX1_clear_0 : decode cX1_clear 0 = .ok (.aload_n 0, 1) := by decide +kernel
theorem dX1_clear_1 : decode cX1_clear 1 = .ok (.iconst 0, 1) := by decide +kernel
theorem dX1_clear_2 : decode cX1_clear 2 = .ok (.putfield 15, 3) := by decide +kernel
theorem dX1_clear_5 : decode cX1_clear 5 = .ok (.return_, 1) := by decide +kernel
theorem dX1_at_0 : decode cX1_at 0 = .ok (.iload_n 1, 1) := by decide +kernel
theorem dX1_at_1 : decode cX1_at 1 = .ok (.ifCond .lt 20, 3) := by decide +kernel
theorem dX1_at_4 : decode cX1_at 4 = .ok (.iload_n 1, 1) := by decide +kernel
theorem dX1_at_5 : decode cX1_at 5 = .ok (.aload_n 0, 1) := by decide +kernel
theorem dX1_at_6 : decode cX1_at 6 = .ok (.getfield 15, 3) := by decide +kernel
theorem dX1_at_9 : decode cX1_at 9 = .ok (.if_icmp .ge 12, 3) := by decide +kernel
theorem dX1_at_12 : decode cX1_at 12 = .ok (.aload_n 0, 1) := by decide +kernel
theorem dX1_at_13 : decode cX1_at 13 = .ok (.getfield 9, 3) := by decide +kernel
theorem dX1_at_16 : decode cX1_at 16 = .ok (.iload_n 1, 1) := by decide +kernel
theorem dX1_at_17 : decode cX1_at 17 = .ok (.caload, 1) := by decide +kernel
theorem dX1_at_18 : decode cX1_at 18 = .ok (.goto 4, 3) := by decide +kernel
theorem dX1_at_21 : decode cX1_at 21 = .ok (.iconst 0, 1) := by decide +kernel
theorem dX1_at_22 : decode cX1_at 22 = .ok (.ireturn, 1) := by decide +kernel
set_option maxRecDepth 20000 in
theorem ggX1_digit_X1_at : GoodIn wsX1_digit wsX1_at := goodIn_r _ [5, 6, 7, 11, 12] (by decide +kernel) (by decide +kernel)
set_option maxRecDepth 20000 in
theorem gX1_digit_X1_at : GoodIn wsX1_digit (wsV RX1 19 RX1 yX1_at wsX1_at) := goodIn_app (goodIn_of _ (by decide +kernel)) ggX1_digit_X1_at
set_option maxRecDepth 20000 in
theorem ggX1_digit_X1_isDigit : GoodIn wsX1_digit wsX1_isDigit := goodIn_r _ [10] (by decide +kernel) (by decide +kernel)
set_option maxRecDepth 20000 in
theorem gX1_digit_X1_isDigit : GoodIn wsX1_digit (va_wsS RX1 23 yX1_isDigit wsX1_isDigit) := goodIn_app (goodIn_of _ (by decide +kernel)) ggX1_digit_X1_isDigit
theorem dX1_digit_0 : decode cX1_digit 0 = .ok (.aload_n 0, 1) := by decide +kernel
theorem dX1_digit_1 : decode cX1_digit 1 = .ok (.iload_n 1, 1) := by decide +kernel
theorem dX1_digit_2 : decode cX1_digit 2 = .ok (.invokevirtual 19, 3) := by decide +kernel
theorem dX1_digit_5 : decode cX1_digit 5 = .ok (.invokestatic 23, 3) := by decide +kernel
theorem dX1_digit_8 : decode cX1_digit 8 = .ok (.ifCond .eq 14, 3) := by decide +kernel
theorem dX1_digit_11 : decode cX1_digit 11 = .ok (.aload_n 0, 1) := by decide +kernel
theorem dX1_digit_12 : decode cX1_digit 12 = .ok (.iload_n 1, 1) := by decide +kernel
theorem dX1_digit_13 : decode cX1_digit 13 = .ok (.invokevirtual 19, 3) := by decide +kernel
theorem dX1_digit_16 : decode cX1_digit 16 = .ok (.bipush 48, 2) := by decide +kernel
theorem dX1_digit_18 : decode cX1_digit 18 = .ok (.isub, 1) := by decide +kernel
theorem dX1_digit_19 : decode cX1_digit 19 = .ok (.goto 4, 3) := by decide +kernel
theorem dX1_digit_22 : decode cX1_digit 22 = .ok (.iconst 0, 1) := by decide +kernel
theorem dX1_digit_23 : decode cX1_digit 23 = .ok (.ireturn, 1) := by decide +kernel
set_option maxRecDepth 20000 in
theorem ggX1_number_X1_at : GoodIn wsX1_number wsX1_at := goodIn_r _ [5, 6, 7, 15, 16] (by decide +kernel) (by decide +kernel)
set_option maxRecDepth 20000 in
theorem gX1_number_X1_at : GoodIn wsX1_number (wsV RX1 19 RX1 yX1_at wsX1_at) := goodIn_app (goodIn_of _ (by decide +kernel)) ggX1_number_X1_at
set_option maxRecDepth 20000 in
theorem ggX1_number_X1_isDigit : GoodIn wsX1_number wsX1_isDigit := goodIn_r _ [10] (by decide +kernel) (by decide +kernel)
set_option maxRecDepth 20000 in
theorem gX1_number_X1_isDigit : GoodIn wsX1_number (va_wsS RX1 23 yX1_isDigit wsX1_isDigit) := goodIn_app (goodIn_of _ (by decide +kernel)) ggX1_number_X1_isDigit
set_option maxRecDepth 20000 in
theorem ggX1_number_X1_digit : GoodIn wsX1_number wsX1_digit := goodIn_r _ [14, 1, 2, 3, 4, 5, 6, 7, 8, 9, 10, 15, 16] (by decide +kernel) (by decide +kernel)
set_option maxRecDepth 20000 in
theorem gX1_number_X1_digit : GoodIn wsX1_number (wsV RX1 27 RX1 yX1_digit wsX1_digit) := goodIn_app (goodIn_of _ (by decide +kernel)) ggX1_number_X1_digit
theorem dX1_number_0 : decode cX1_number 0 = .ok (.iconst 0, 1) := by decide +kernel
theorem dX1_number_1 : decode cX1_number 1 = .ok (.istore_n 3, 1) := by decide +kernel
theorem dX1_number_2 : decode cX1_number 2 = .ok (.iconst 0, 1) := by decide +kernel
theorem dX1_number_3 : decode cX1_number 3 = .ok (.istore 4, 2) := by decide +kernel
theorem dX1_number_5 : decode cX1_number 5 = .ok (.iload 4, 2) := by decide +kernel
theorem dX1_number_7 : decode cX1_number 7 = .ok (.iload_n 2, 1) := by decide +kernel
theorem dX1_number_8 : decode cX1_number 8 = .ok (.if_icmp .ge 37, 3) := by decide +kernel
theorem dX1_number_11 : decode cX1_number 11 = .ok (.aload_n 0, 1) := by decide +kernel
theorem dX1_number_12 : decode cX1_number 12 = .ok (.iload_n 1, 1) := by decide +kernel
theorem dX1_number_13 : decode cX1_number 13 = .ok (.iload 4, 2) := by decide +kernel
theorem dX1_number_15 : decode cX1_number 15 = .ok (.iadd, 1) := by decide +kernel
theorem dX1_number_16 : decode cX1_number 16 = .ok (.invokevirtual 19, 3) := by decide +kernel
theorem dX1_number_19 : decode cX1_number 19 = .ok (.invokestatic 23, 3) := by decide +kernel
theorem dX1_number_22 : decode cX1_number 22 = .ok (.ifCond .eq 23, 3) := by decide +kernel
theorem dX1_number_25 : decode cX1_number 25 = .ok (.iload_n 3, 1) := by decide +kernel
theorem dX1_number_26 : decode cX1_number 26 = .ok (.bipush 10, 2) := by decide +kernel
theorem dX1_number_28 : decode cX1_number 28 = .ok (.imul, 1) := by decide +kernel
theorem dX1_number_29 : decode cX1_number 29 = .ok (.aload_n 0, 1) := by decide +kernel
theorem dX1_number_30 : decode cX1_number 30 = .ok (.iload_n 1, 1) := by decide +kernel
theorem dX1_number_31 : decode cX1_number 31 = .ok (.iload 4, 2) := by decide +kernel
theorem dX1_number_33 : decode cX1_number 33 = .ok (.iadd, 1) := by decide +kernel
theorem dX1_number_34 : decode cX1_number 34 = .ok (.invokevirtual 27, 3) := by decide +kernel
theorem dX1_number_37 : decode cX1_number 37 = .ok (.iadd, 1) := by decide +kernel
theorem dX1_number_38 : decode cX1_number 38 = .ok (.istore_n 3, 1) := by decide +kernel
theorem dX1_number_39 : decode cX1_number 39 = .ok (.iinc 4 1, 3) := by decide +kernel
theorem dX1_number_42 : decode cX1_number 42 = .ok (.goto (-37), 3) := by decide +kernel
theorem dX1_number_45 : decode cX1_number 45 = .ok (.iload_n 3, 1) := by decide +kernel
theorem dX1_number_46 : decode cX1_number 46 = .ok (.ireturn, 1) := by decide +kernel
set_option maxRecDepth 20000 in
theorem ggX1_firstOutOfForm_J0_length_8abf5 : GoodIn wsX1_firstOutOfForm wsJ0_length_8abf5 := goodIn_r _ [6, 7, 8, 9, 10, 5, 11, 12, 13] (by decide +kernel) (by decide +kernel)
set_option maxRecDepth 20000 in
theorem gX1_firstOutOfForm_J0_length_8abf5 : GoodIn wsX1_firstOutOfForm (wsV RX1 33 RJ0 yJ0_length_8abf5 wsJ0_length_8abf5) := goodIn_app (goodIn_of _ (by decide +kernel)) ggX1_firstOutOfForm_J0_length_8abf5
set_option maxRecDepth 20000 in
theorem ggX1_firstOutOfForm_X1_at : GoodIn wsX1_firstOutOfForm wsX1_at := goodIn_r _ [18, 1, 19, 141, 142] (by decide +kernel) (by decide +kernel)
set_option maxRecDepth 20000 in
theorem gX1_firstOutOfForm_X1_at : GoodIn wsX1_firstOutOfForm (wsV RX1 19 RX1 yX1_at wsX1_at) := goodIn_app (goodIn_of _ (by decide +kernel)) ggX1_firstOutOfForm_X1_at
set_option maxRecDepth 20000 in
theorem ggX1_firstOutOfForm_X1_formBehind : GoodIn wsX1_firstOutOfForm wsX1_formBehind := goodIn_r _ [22] (by decide +kernel) (by decide +kernel)
set_option maxRecDepth 20000 in
theorem gX1_firstOutOfForm_X1_formBehind : GoodIn wsX1_firstOutOfForm (va_wsS RX1 39 yX1_formBehind wsX1_formBehind) := goodIn_app (goodIn_of _ (by decide +kernel)) ggX1_firstOutOfForm_X1_formBehind
set_option maxRecDepth 20000 in
theorem ggX1_firstOutOfForm_J0_isEmpty_aae02 : GoodIn wsX1_firstOutOfForm wsJ0_isEmpty_aae02 := goodIn_r _ [26, 7] (by decide +kernel) (by decide +kernel)
set_option maxRecDepth 20000 in
theorem gX1_firstOutOfForm_J0_isEmpty_aae02 : GoodIn wsX1_firstOutOfForm (wsV RX1 43 RJ0 yJ0_isEmpty_aae02 wsJ0_isEmpty_aae02) := goodIn_app (goodIn_of _ (by decide +kernel)) ggX1_firstOutOfForm_J0_isEmpty_aae02
set_option maxRecDepth 20000 in
theorem ggX1_firstOutOfForm_X1_stepBehind : GoodIn wsX1_firstOutOfForm wsX1_stepBehind := goodIn_r _ [29, 2, 3, 4, 5, 6, 7, 8, 9, 10, 11, 12, 13, 30, 31, 32, 33, 34, 35, 36, 37, 38, 39, 40, 41, 42, 43, 44, 45, 46, 47, 48, 49, 50, 51, 52, 53, 54, 55, 56, 57, 58, 59, 60, 61, 62, 63, 64, 65, 66, 67, 68, 17, 69, 70, 71, 72, 73, 74, 75, 76, 77, 78, 79, 80, 81, 82, 83, 84, 85, 86, 87, 88, 89, 90, 91, 92, 93, 94, 95, 96, 97, 98, 99, 100, 101, 102, 103, 104, 105, 106, 107, 108, 109, 110, 111, 112, 113, 114, 115, 116, 117, 118, 119, 120, 121, 122, 123, 124, 125, 126, 127, 128, 129, 130, 131, 132, 133, 134, 135, 136, 137, 138, 139, 140] (by decide +kernel) (by decide +kernel)
set_option maxRecDepth 20000 in
theorem gX1_firstOutOfForm_X1_stepBehind : GoodIn wsX1_firstOutOfForm (va_wsS RX1 47 yX1_stepBehind wsX1_stepBehind) := goodIn_app (goodIn_of _ (by decide +kernel)) ggX1_firstOutOfForm_X1_stepBehind
theorem dX1_firstOutOfForm_0 : decode cX1_firstOutOfForm 0 = .ok (.aload_n 0, 1) := by decide +kernel
theorem dX1_firstOutOfForm_1 : decode cX1_firstOutOfForm 1 = .ok (.getfield 15, 3) := by decide +kernel
theorem dX1_firstOutOfForm_4 : decode cX1_firstOutOfForm 4 = .ok (.ifCond .ne 5, 3) := by decide +kernel
theorem dX1_firstOutOfForm_7 : decode cX1_firstOutOfForm 7 = .ok (.iconst 0, 1) := by decide +kernel
theorem dX1_firstOutOfForm_8 : decode cX1_firstOutOfForm 8 = .ok (.ireturn, 1) := by decide +kernel
theorem dX1_firstOutOfForm_9 : decode cX1_firstOutOfForm 9 = .ok (.ldc 31, 2) := by decide +kernel
theorem dX1_firstOutOfForm_11 : decode cX1_firstOutOfForm 11 = .ok (.astore_n 1, 1) := by decide +kernel
theorem dX1_firstOutOfForm_12 : decode cX1_firstOutOfForm 12 = .ok (.iconst 0, 1) := by decide +kernel
theorem dX1_firstOutOfForm_13 : decode cX1_firstOutOfForm 13 = .ok (.istore_n 2, 1) := by decide +kernel
theorem dX1_firstOutOfForm_14 : decode cX1_firstOutOfForm 14 = .ok (.iconst 0, 1) := by decide +kernel
theorem dX1_firstOutOfForm_15 : decode cX1_firstOutOfForm 15 = .ok (.istore_n 3, 1) := by decide +kernel
theorem dX1_firstOutOfForm_16 : decode cX1_firstOutOfForm 16 = .ok (.iload_n 3, 1) := by decide +kernel
theorem dX1_firstOutOfForm_17 : decode cX1_firstOutOfForm 17 = .ok (.aload_n 0, 1) := by decide +kernel
theorem dX1_firstOutOfForm_18 : decode cX1_firstOutOfForm 18 = .ok (.getfield 15, 3) := by decide +kernel
theorem dX1_firstOutOfForm_21 : decode cX1_firstOutOfForm 21 = .ok (.if_icmp .ge 59, 3) := by decide +kernel
theorem dX1_firstOutOfForm_24 : decode cX1_firstOutOfForm 24 = .ok (.iload_n 2, 1) := by decide +kernel
theorem dX1_firstOutOfForm_25 : decode cX1_firstOutOfForm 25 = .ok (.aload_n 1, 1) := by decide +kernel
theorem dX1_firstOutOfForm_26 : decode cX1_firstOutOfForm 26 = .ok (.invokevirtual 33, 3) := by decide +kernel
theorem dX1_firstOutOfForm_29 : decode cX1_firstOutOfForm 29 = .ok (.if_icmp .lt 28, 3) := by decide +kernel
theorem dX1_firstOutOfForm_32 : decode cX1_firstOutOfForm 32 = .ok (.aload_n 0, 1) := by decide +kernel
theorem dX1_firstOutOfForm_33 : decode cX1_firstOutOfForm 33 = .ok (.iload_n 3, 1) := by decide +kernel
theorem dX1_firstOutOfForm_34 : decode cX1_firstOutOfForm 34 = .ok (.invokevirtual 19, 3) := by decide +kernel
theorem dX1_firstOutOfForm_37 : decode cX1_firstOutOfForm 37 = .ok (.invokestatic 39, 3) := by decide +kernel
theorem dX1_firstOutOfForm_40 : decode cX1_firstOutOfForm 40 = .ok (.astore_n 1, 1) := by decide +kernel
theorem dX1_firstOutOfForm_41 : decode cX1_firstOutOfForm 41 = .ok (.aload_n 1, 1) := by decide +kernel
theorem dX1_firstOutOfForm_42 : decode cX1_firstOutOfForm 42 = .ok (.invokevirtual 43, 3) := by decide +kernel
theorem dX1_firstOutOfForm_45 : decode cX1_firstOutOfForm 45 = .ok (.ifCond .eq 7, 3) := by decide +kernel
theorem dX1_firstOutOfForm_48 : decode cX1_firstOutOfForm 48 = .ok (.iconst (-1), 1) := by decide +kernel
theorem dX1_firstOutOfForm_49 : decode cX1_firstOutOfForm 49 = .ok (.goto 4, 3) := by decide +kernel
theorem dX1_firstOutOfForm_52 : decode cX1_firstOutOfForm 52 = .ok (.iconst 0, 1) := by decide +kernel
theorem dX1_firstOutOfForm_53 : decode cX1_firstOutOfForm 53 = .ok (.istore_n 2, 1) := by decide +kernel
theorem dX1_firstOutOfForm_54 : decode cX1_firstOutOfForm 54 = .ok (.goto 14, 3) := by decide +kernel
theorem dX1_firstOutOfForm_57 : decode cX1_firstOutOfForm 57 = .ok (.aload_n 1, 1) := by decide +kernel
theorem dX1_firstOutOfForm_58 : decode cX1_firstOutOfForm 58 = .ok (.iload_n 2, 1) := by decide +kernel
theorem dX1_firstOutOfForm_59 : decode cX1_firstOutOfForm 59 = .ok (.aload_n 0, 1) := by decide +kernel
theorem dX1_firstOutOfForm_60 : decode cX1_firstOutOfForm 60 = .ok (.iload_n 3, 1) := by decide +kernel
theorem dX1_firstOutOfForm_61 : decode cX1_firstOutOfForm 61 = .ok (.invokevirtual 19, 3) := by decide +kernel
theorem dX1_firstOutOfForm_64 : decode cX1_firstOutOfForm 64 = .ok (.invokestatic 47, 3) := by decide +kernel
theorem dX1_firstOutOfForm_67 : decode cX1_firstOutOfForm 67 = .ok (.istore_n 2, 1) := by decide +kernel
theorem dX1_firstOutOfForm_68 : decode cX1_firstOutOfForm 68 = .ok (.iload_n 2, 1) := by decide +kernel
theorem dX1_firstOutOfForm_69 : decode cX1_firstOutOfForm 69 = .ok (.ifCond .ge 5, 3) := by decide +kernel
theorem dX1_firstOutOfForm_72 : decode cX1_firstOutOfForm 72 = .ok (.iload_n 3, 1) := by decide +kernel
theorem dX1_firstOutOfForm_73 : decode cX1_firstOutOfForm 73 = .ok (.ireturn, 1) := by decide +kernel
theorem dX1_firstOutOfForm_74 : decode cX1_firstOutOfForm 74 = .ok (.iinc 3 1, 3) := by decide +kernel
theorem dX1_firstOutOfForm_77 : decode cX1_firstOutOfForm 77 = .ok (.goto (-61), 3) := by decide +kernel
theorem dX1_firstOutOfForm_80 : decode cX1_firstOutOfForm 80 = .ok (.iload_n 2, 1) := by decide +kernel
theorem dX1_firstOutOfForm_81 : decode cX1_firstOutOfForm 81 = .ok (.aload_n 1, 1) := by decide +kernel
theorem dX1_firstOutOfForm_82 : decode cX1_firstOutOfForm 82 = .ok (.invokevirtual 33, 3) := by decide +kernel
theorem dX1_firstOutOfForm_85 : decode cX1_firstOutOfForm 85 = .ok (.if_icmp .ge 10, 3) := by decide +kernel
theorem dX1_firstOutOfForm_88 : decode cX1_firstOutOfForm 88 = .ok (.aload_n 0, 1) := by decide +kernel
theorem dX1_firstOutOfForm_89 : decode cX1_firstOutOfForm 89 = .ok (.getfield 15, 3) := by decide +kernel
theorem dX1_firstOutOfForm_92 : decode cX1_firstOutOfForm 92 = .ok (.goto 4, 3) := by decide +kernel
theorem dX1_firstOutOfForm_95 : decode cX1_firstOutOfForm 95 = .ok (.iconst (-1), 1) := by decide +kernel
theorem dX1_firstOutOfForm_96 : decode cX1_firstOutOfForm 96 = .ok (.ireturn, 1) := by decide +kernel
theorem dX1_formBehind_0 : decode cX1_formBehind 0 = .ok (.iload_n 0, 1) := by decide +kernel
theorem dX1_formBehind_1 : decode cX1_formBehind 1 = .ok (.tableswitch 113 102 121 #[107, 113, 113, 113, 113, 104, 113, 113, 113, 113, 113, 113, 101, 113, 113, 110, 113, 98, 113, 95], 95) := by decide +kernel
theorem dX1_formBehind_96 : decode cX1_formBehind 96 = .ok (.ldc 51, 2) := by decide +kernel
theorem dX1_formBehind_98 : decode cX1_formBehind 98 = .ok (.areturn, 1) := by decide +kernel
theorem dX1_formBehind_99 : decode cX1_formBehind 99 = .ok (.ldc 53, 2) := by decide +kernel
theorem dX1_formBehind_101 : decode cX1_formBehind 101 = .ok (.areturn, 1) := by decide +kernel
theorem dX1_formBehind_102 : decode cX1_formBehind 102 = .ok (.ldc 55, 2) := by decide +kernel
theorem dX1_formBehind_104 : decode cX1_formBehind 104 = .ok (.areturn, 1) := by decide +kernel
theorem dX1_formBehind_105 : decode cX1_formBehind 105 = .ok (.ldc 57, 2) := by decide +kernel
theorem dX1_formBehind_107 : decode cX1_formBehind 107 = .ok (.areturn, 1) := by decide +kernel
theorem dX1_formBehind_108 : decode cX1_formBehind 108 = .ok (.ldc 59, 2) := by decide +kernel
theorem dX1_formBehind_110 : decode cX1_formBehind 110 = .ok (.areturn, 1) := by decide +kernel
theorem dX1_formBehind_111 : decode cX1_formBehind 111 = .ok (.ldc 61, 2) := by decide +kernel
theorem dX1_formBehind_113 : decode cX1_formBehind 113 = .ok (.areturn, 1) := by decide +kernel
theorem dX1_formBehind_114 : decode cX1_formBehind 114 = .ok (.ldc 31, 2) := by decide +kernel
theorem dX1_formBehind_116 : decode cX1_formBehind 116 = .ok (.areturn, 1) := by decide +kernel
set_option maxRecDepth 20000 in
theorem ggX1_stepBehind_J0_length_8abf5 : GoodIn wsX1_stepBehind wsJ0_length_8abf5 := goodIn_r _ [5, 6, 7, 8, 9, 4, 10, 11, 12] (by decide +kernel) (by decide +kernel)
set_option maxRecDepth 20000 in
theorem gX1_stepBehind_J0_length_8abf5 : GoodIn wsX1_stepBehind (wsV RX1 33 RJ0 yJ0_length_8abf5 wsJ0_length_8abf5) := goodIn_app (goodIn_of _ (by decide +kernel)) ggX1_stepBehind_J0_length_8abf5
set_option maxRecDepth 20000 in
theorem ggX1_stepBehind_J0_charAt_5068e : GoodIn wsX1_stepBehind wsJ0_charAt_5068e := goodIn_r _ [16, 6, 17, 18, 19, 4, 20, 11, 12, 21, 22, 23, 24, 25, 26, 27, 28, 29, 30, 31, 32, 33, 34, 35, 36, 37, 38, 39, 40, 41, 42, 43, 44, 45, 46, 47, 48, 49] (by decide +kernel) (by decide +kernel)
set_option maxRecDepth 20000 in
theorem gX1_stepBehind_J0_charAt_5068e : GoodIn wsX1_stepBehind (wsV RX1 63 RJ0 yJ0_charAt_5068e wsJ0_charAt_5068e) := goodIn_app (goodIn_of _ (by decide +kernel)) ggX1_stepBehind_J0_charAt_5068e
set_option maxRecDepth 20000 in
theorem ggX1_stepBehind_X1_fits : GoodIn wsX1_stepBehind wsX1_fits := goodIn_r _ [53, 54, 55, 56, 57, 58, 59, 4, 60, 61, 62, 63, 64, 6, 17, 18, 19, 20, 11, 12, 65, 2, 3, 5, 7, 8, 9, 10, 66, 67, 23, 68, 69, 70, 71, 72, 73, 74, 75, 76, 77, 78, 79, 80, 81, 82, 83, 35, 84, 85, 86, 87, 88, 89, 90, 91, 92, 93, 40, 41, 42, 94, 95, 96, 28, 97, 98, 31, 99, 100, 101, 102, 44, 45, 46, 47, 48, 49, 103, 104, 105, 106, 107, 108, 109, 110, 111, 112, 113, 114, 115, 116, 117, 118, 119, 120, 121, 122, 123, 52, 124] (by decide +kernel) (by decide +kernel)
set_option maxRecDepth 20000 in
theorem gX1_stepBehind_X1_fits : GoodIn wsX1_stepBehind (va_wsS RX1 66 yX1_fits wsX1_fits) := goodIn_app (goodIn_of _ (by decide +kernel)) ggX1_stepBehind_X1_fits
theorem dX1_stepBehind_0 : decode cX1_stepBehind 0 = .ok (.iload_n 1, 1) := by decide +kernel
theorem dX1_stepBehind_1 : decode cX1_stepBehind 1 = .ok (.istore_n 3, 1) := by decide +kernel
theorem dX1_stepBehind_2 : decode cX1_stepBehind 2 = .ok (.iload_n 3, 1) := by decide +kernel
theorem dX1_stepBehind_3 : decode cX1_stepBehind 3 = .ok (.aload_n 0, 1) := by decide +kernel
theorem dX1_stepBehind_4 : decode cX1_stepBehind 4 = .ok (.invokevirtual 33, 3) := by decide +kernel
theorem dX1_stepBehind_7 : decode cX1_stepBehind 7 = .ok (.if_icmp .ge 38, 3) := by decide +kernel
theorem dX1_stepBehind_10 : decode cX1_stepBehind 10 = .ok (.aload_n 0, 1) := by decide +kernel
theorem dX1_stepBehind_11 : decode cX1_stepBehind 11 = .ok (.iload_n 3, 1) := by decide +kernel
theorem dX1_stepBehind_12 : decode cX1_stepBehind 12 = .ok (.invokevirtual 63, 3) := by decide +kernel
theorem dX1_stepBehind_15 : decode cX1_stepBehind 15 = .ok (.istore 4, 2) := by decide +kernel
theorem dX1_stepBehind_17 : decode cX1_stepBehind 17 = .ok (.iload 4, 2) := by decide +kernel
theorem dX1_stepBehind_19 : decode cX1_stepBehind 19 = .ok (.iload_n 2, 1) := by decide +kernel
theorem dX1_stepBehind_20 : decode cX1_stepBehind 20 = .ok (.invokestatic 66, 3) := by decide +kernel
theorem dX1_stepBehind_23 : decode cX1_stepBehind 23 = .ok (.ifCond .eq 7, 3) := by decide +kernel
theorem dX1_stepBehind_26 : decode cX1_stepBehind 26 = .ok (.iload_n 3, 1) := by decide +kernel
theorem dX1_stepBehind_27 : decode cX1_stepBehind 27 = .ok (.iconst 1, 1) := by decide +kernel
theorem dX1_stepBehind_28 : decode cX1_stepBehind 28 = .ok (.iadd, 1) := by decide +kernel
theorem dX1_stepBehind_29 : decode cX1_stepBehind 29 = .ok (.ireturn, 1) := by decide +kernel
theorem dX1_stepBehind_30 : decode cX1_stepBehind 30 = .ok (.iload 4, 2) := by decide +kernel
theorem dX1_stepBehind_32 : decode cX1_stepBehind 32 = .ok (.bipush 63, 2) := by decide +kernel
theorem dX1_stepBehind_34 : decode cX1_stepBehind 34 = .ok (.if_icmp .eq 5, 3) := by decide +kernel
theorem dX1_stepBehind_37 : decode cX1_stepBehind 37 = .ok (.iconst (-1), 1) := by decide +kernel
theorem dX1_stepBehind_38 : decode cX1_stepBehind 38 = .ok (.ireturn, 1) := by decide +kernel
theorem dX1_stepBehind_39 : decode cX1_stepBehind 39 = .ok (.iinc 3 1, 3) := by decide +kernel
theorem dX1_stepBehind_42 : decode cX1_stepBehind 42 = .ok (.goto (-40), 3) := by decide +kernel
theorem dX1_stepBehind_45 : decode cX1_stepBehind 45 = .ok (.iconst (-1), 1) := by decide +kernel
theorem dX1_stepBehind_46 : decode cX1_stepBehind 46 = .ok (.ireturn, 1) := by decide +kernel
set_option maxRecDepth 20000 in
theorem ggX1_fits_X0_of : GoodIn wsX1_fits wsX0_of := goodIn_r _ [3, 4, 5, 6, 7, 8, 9, 10, 11, 12, 13, 14, 15, 16, 17, 18, 19, 20, 21, 22, 23, 24, 25, 26, 27, 28, 29, 30, 31, 32, 33, 34, 35, 36, 37, 38, 39, 40, 41, 42, 43, 44, 45, 46, 47, 48, 49, 50, 51, 52, 53, 54, 55, 56, 57, 58, 59, 60, 61, 62, 63, 64, 65, 66, 67, 68, 69, 70, 71, 72, 73, 74, 75, 76, 77, 78, 79, 80, 81, 82, 83, 84, 85, 86, 87, 88, 89, 90, 91, 92] (by decide +kernel) (by decide +kernel)
set_option maxRecDepth 20000 in
theorem gX1_fits_X0_of_n70 : GoodIn wsX1_fits (wsX0_of) := ggX1_fits_X0_of
set_option maxRecDepth 20000 in
theorem ggX1_fits_X2_of : GoodIn wsX1_fits wsX2_of := goodIn_r _ [95, 96, 5, 6, 7, 8, 9, 10, 11, 12, 13, 14, 15, 16, 17, 18, 19, 20, 21, 22, 23, 24, 25, 26, 27, 28, 29, 30, 31, 32, 33, 34, 35, 36, 37, 38, 39, 40, 41, 42, 43, 44, 45, 46, 47, 48, 49, 50, 51, 52, 53, 54, 55, 56, 57, 58, 59, 60, 61, 62, 63, 64, 65, 66, 67, 68, 69, 70, 71, 72, 73, 74, 75, 76, 77, 78, 79, 80, 81, 82, 83, 84, 85, 86, 87, 88, 89, 90, 91, 92] (by decide +kernel) (by decide +kernel)
set_option maxRecDepth 20000 in
theorem gX1_fits_X2_of_n76 : GoodIn wsX1_fits (wsX2_of) := ggX1_fits_X2_of
set_option maxRecDepth 20000 in
theorem ggX1_fits_X1_isDigit : GoodIn wsX1_fits wsX1_isDigit := goodIn_r _ [100] (by decide +kernel) (by decide +kernel)
set_option maxRecDepth 20000 in
theorem gX1_fits_X1_isDigit : GoodIn wsX1_fits (va_wsS RX1 23 yX1_isDigit wsX1_isDigit) := goodIn_app (goodIn_of _ (by decide +kernel)) ggX1_fits_X1_isDigit
theorem dX1_fits_0 : decode cX1_fits 0 = .ok (.iload_n 0, 1) := by decide +kernel
theorem dX1_fits_1 : decode cX1_fits 1 = .ok (.lookupswitch 100 #[(43, 82), (48, 77), (63, 77), (76, 51), (80, 64)], 51) := by decide +kernel
theorem dX1_fits_52 : decode cX1_fits 52 = .ok (.iload_n 1, 1) := by decide +kernel
theorem dX1_fits_53 : decode cX1_fits 53 = .ok (.invokestatic 70, 3) := by decide +kernel
theorem dX1_fits_56 : decode cX1_fits 56 = .ok (.ifCond .lt 7, 3) := by decide +kernel
theorem dX1_fits_59 : decode cX1_fits 59 = .ok (.iconst 1, 1) := by decide +kernel
theorem dX1_fits_60 : decode cX1_fits 60 = .ok (.goto 4, 3) := by decide +kernel
theorem dX1_fits_63 : decode cX1_fits 63 = .ok (.iconst 0, 1) := by decide +kernel
theorem dX1_fits_64 : decode cX1_fits 64 = .ok (.ireturn, 1) := by decide +kernel
theorem dX1_fits_65 : decode cX1_fits 65 = .ok (.iload_n 1, 1) := by decide +kernel
theorem dX1_fits_66 : decode cX1_fits 66 = .ok (.invokestatic 76, 3) := by decide +kernel
theorem dX1_fits_69 : decode cX1_fits 69 = .ok (.ifCond .lt 7, 3) := by decide +kernel
theorem dX1_fits_72 : decode cX1_fits 72 = .ok (.iconst 1, 1) := by decide +kernel
theorem dX1_fits_73 : decode cX1_fits 73 = .ok (.goto 4, 3) := by decide +kernel
theorem dX1_fits_76 : decode cX1_fits 76 = .ok (.iconst 0, 1) := by decide +kernel
theorem dX1_fits_77 : decode cX1_fits 77 = .ok (.ireturn, 1) := by decide +kernel
theorem dX1_fits_78 : decode cX1_fits 78 = .ok (.iload_n 1, 1) := by decide +kernel
theorem dX1_fits_79 : decode cX1_fits 79 = .ok (.invokestatic 23, 3) := by decide +kernel
theorem dX1_fits_82 : decode cX1_fits 82 = .ok (.ireturn, 1) := by decide +kernel
theorem dX1_fits_83 : decode cX1_fits 83 = .ok (.iload_n 1, 1) := by decide +kernel
theorem dX1_fits_84 : decode cX1_fits 84 = .ok (.bipush 43, 2) := by decide +kernel
theorem dX1_fits_86 : decode cX1_fits 86 = .ok (.if_icmp .eq 9, 3) := by decide +kernel
theorem dX1_fits_89 : decode cX1_fits 89 = .ok (.iload_n 1, 1) := by decide +kernel
theorem dX1_fits_90 : decode cX1_fits 90 = .ok (.bipush 45, 2) := by decide +kernel
theorem dX1_fits_92 : decode cX1_fits 92 = .ok (.if_icmp .ne 7, 3) := by decide +kernel
theorem dX1_fits_95 : decode cX1_fits 95 = .ok (.iconst 1, 1) := by decide +kernel
theorem dX1_fits_96 : decode cX1_fits 96 = .ok (.goto 4, 3) := by decide +kernel
theorem dX1_fits_99 : decode cX1_fits 99 = .ok (.iconst 0, 1) := by decide +kernel
theorem dX1_fits_100 : decode cX1_fits 100 = .ok (.ireturn, 1) := by decide +kernel
theorem dX1_fits_101 : decode cX1_fits 101 = .ok (.iload_n 1, 1) := by decide +kernel
theorem dX1_fits_102 : decode cX1_fits 102 = .ok (.iload_n 0, 1) := by decide +kernel
theorem dX1_fits_103 : decode cX1_fits 103 = .ok (.if_icmp .ne 7, 3) := by decide +kernel
theorem dX1_fits_106 : decode cX1_fits 106 = .ok (.iconst 1, 1) := by decide +kernel
theorem dX1_fits_107 : decode cX1_fits 107 = .ok (.goto 4, 3) := by decide +kernel
theorem dX1_fits_110 : decode cX1_fits 110 = .ok (.iconst 0, 1) := by decide +kernel
theorem dX1_fits_111 : decode cX1_fits 111 = .ok (.ireturn, 1) := by decide +kernel
theorem dX1_isDigit_0 : decode cX1_isDigit 0 = .ok (.iload_n 0, 1) := by decide +kernel
theorem dX1_isDigit_1 : decode cX1_isDigit 1 = .ok (.bipush 48, 2) := by decide +kernel
theorem dX1_isDigit_3 : decode cX1_isDigit 3 = .ok (.if_icmp .lt 13, 3) := by decide +kernel
theorem dX1_isDigit_6 : decode cX1_isDigit 6 = .ok (.iload_n 0, 1) := by decide +kernel
theorem dX1_isDigit_7 : decode cX1_isDigit 7 = .ok (.bipush 57, 2) := by decide +kernel
theorem dX1_isDigit_9 : decode cX1_isDigit 9 = .ok (.if_icmp .gt 7, 3) := by decide +kernel
theorem dX1_isDigit_12 : decode cX1_isDigit 12 = .ok (.iconst 1, 1) := by decide +kernel
theorem dX1_isDigit_13 : decode cX1_isDigit 13 = .ok (.goto 4, 3) := by decide +kernel
theorem dX1_isDigit_16 : decode cX1_isDigit 16 = .ok (.iconst 0, 1) := by decide +kernel
theorem dX1_isDigit_17 : decode cX1_isDigit 17 = .ok (.ireturn, 1) := by decide +kernel
set_option maxRecDepth 20000 in
theorem ggX2_of_J0_indexOf_0f7a4 : GoodIn wsX2_of wsJ0_indexOf_0f7a4 := goodIn_r _ [5, 6, 7, 8, 4, 9, 10, 11, 12, 13, 14, 15, 16, 17, 18, 19, 20, 21, 22, 23, 24, 25, 26, 27, 28, 29, 30, 31, 32, 33, 34, 35, 36, 37, 38, 39, 40, 41, 42, 43, 44, 45, 46, 47, 48, 49, 50, 51, 52, 53, 54, 55, 56, 57, 58, 59, 60, 61, 62, 63, 64, 65, 66, 67, 68, 69, 70, 71, 72, 73, 74, 75, 76, 77, 78, 79, 80, 81, 82, 83, 84, 85, 86, 87, 88, 89] (by decide +kernel) (by decide +kernel)
set_option maxRecDepth 20000 in
theorem gX2_of_J0_indexOf_0f7a4 : GoodIn wsX2_of (wsV RX2 11 RJ0 yJ0_indexOf_0f7a4 wsJ0_indexOf_0f7a4) := goodIn_app (goodIn_of _ (by decide +kernel)) ggX2_of_J0_indexOf_0f7a4
theorem dX2_of_0 : decode cX2_of 0 = .ok (.ldc 9, 2) := by decide +kernel
theorem dX2_of_2 : decode cX2_of 2 = .ok (.iload_n 0, 1) := by decide +kernel
theorem dX2_of_3 : decode cX2_of 3 = .ok (.invokevirtual 11, 3) := by decide +kernel
theorem dX2_of_6 : decode cX2_of 6 = .ok (.ireturn, 1) := by decide +kernel
theorem dX3_init_0 : decode cX3_init 0 = .ok (.aload_n 0, 1) := by decide +kernel
theorem dX3_init_1 : decode cX3_init 1 = .ok (.invokespecial 3, 3) := by decide +kernel
theorem dX3_init_4 : decode cX3_init 4 = .ok (.aload_n 0, 1) := by decide +kernel
theorem dX3_init_5 : decode cX3_init 5 = .ok (.bipush 12, 2) := by decide +kernel
theorem dX3_init_7 : decode cX3_init 7 = .ok (.newarray .int, 2) := by decide +kernel
theorem dX3_init_9 : decode cX3_init 9 = .ok (.putfield 9, 3) := by decide +kernel
theorem dX3_init_12 : decode cX3_init 12 = .ok (.aload_n 0, 1) := by decide +kernel
theorem dX3_init_13 : decode cX3_init 13 = .ok (.iconst 0, 1) := by decide +kernel
theorem dX3_init_14 : decode cX3_init 14 = .ok (.putfield 15, 3) := by decide +kernel
theorem dX3_init_17 : decode cX3_init 17 = .ok (.return_, 1) := by decide +kernel
theorem dX3_add_0 : decode cX3_add 0 = .ok (.aload_n 0, 1) := by decide +kernel
theorem dX3_add_1 : decode cX3_add 1 = .ok (.getfield 15, 3) := by decide +kernel
theorem dX3_add_4 : decode cX3_add 4 = .ok (.aload_n 0, 1) := by decide +kernel
theorem dX3_add_5 : decode cX3_add 5 = .ok (.getfield 9, 3) := by decide +kernel
theorem dX3_add_8 : decode cX3_add 8 = .ok (.arraylength, 1) := by decide +kernel
theorem dX3_add_9 : decode cX3_add 9 = .ok (.if_icmp .ge 23, 3) := by decide +kernel
theorem dX3_add_12 : decode cX3_add 12 = .ok (.aload_n 0, 1) := by decide +kernel
theorem dX3_add_13 : decode cX3_add 13 = .ok (.getfield 9, 3) := by decide +kernel
theorem dX3_add_16 : decode cX3_add 16 = .ok (.aload_n 0, 1) := by decide +kernel
theorem dX3_add_17 : decode cX3_add 17 = .ok (.getfield 15, 3) := by decide +kernel
theorem dX3_add_20 : decode cX3_add 20 = .ok (.iload_n 1, 1) := by decide +kernel
theorem dX3_add_21 : decode cX3_add 21 = .ok (.iastore, 1) := by decide +kernel
theorem dX3_add_22 : decode cX3_add 22 = .ok (.aload_n 0, 1) := by decide +kernel
theorem dX3_add_23 : decode cX3_add 23 = .ok (.dup, 1) := by decide +kernel
theorem dX3_add_24 : decode cX3_add 24 = .ok (.getfield 15, 3) := by decide +kernel
theorem dX3_add_27 : decode cX3_add 27 = .ok (.iconst 1, 1) := by decide +kernel
theorem dX3_add_28 : decode cX3_add 28 = .ok (.iadd, 1) := by decide +kernel
theorem dX3_add_29 : decode cX3_add 29 = .ok (.putfield 15, 3) := by decide +kernel
theorem dX3_add_32 : decode cX3_add 32 = .ok (.return_, 1) := by decide +kernel
theorem dX3_clear_0 : decode cX3_clear 0 = .ok (.aload_n 0, 1) := by decide +kernel
theorem dX3_clear_1 : decode cX3_clear 1 = .ok (.iconst 0, 1) := by decide +kernel
theorem dX3_clear_2 : decode cX3_clear 2 = .ok (.putfield 15, 3) := by decide +kernel
theorem dX3_clear_5 : decode cX3_clear 5 = .ok (.return_, 1) := by decide +kernel
theorem dX3_isOfTrials_0 : decode cX3_isOfTrials 0 = .ok (.iconst 1, 1) := by decide +kernel
theorem dX3_isOfTrials_1 : decode cX3_isOfTrials 1 = .ok (.istore_n 1, 1) := by decide +kernel
theorem dX3_isOfTrials_2 : decode cX3_isOfTrials 2 = .ok (.iload_n 1, 1) := by decide +kernel
theorem dX3_isOfTrials_3 : decode cX3_isOfTrials 3 = .ok (.aload_n 0, 1) := by decide +kernel
theorem dX3_isOfTrials_4 : decode cX3_isOfTrials 4 = .ok (.getfield 15, 3) := by decide +kernel
theorem dX3_isOfTrials_7 : decode cX3_isOfTrials 7 = .ok (.if_icmp .ge 21, 3) := by decide +kernel
theorem dX3_isOfTrials_10 : decode cX3_isOfTrials 10 = .ok (.aload_n 0, 1) := by decide +kernel
theorem dX3_isOfTrials_11 : decode cX3_isOfTrials 11 = .ok (.getfield 9, 3) := by decide +kernel
theorem dX3_isOfTrials_14 : decode cX3_isOfTrials 14 = .ok (.iload_n 1, 1) := by decide +kernel
theorem dX3_isOfTrials_15 : decode cX3_isOfTrials 15 = .ok (.iaload, 1) := by decide +kernel
theorem dX3_isOfTrials_16 : decode cX3_isOfTrials 16 = .ok (.iconst 1, 1) := by decide +kernel
theorem dX3_isOfTrials_17 : decode cX3_isOfTrials 17 = .ok (.if_icmp .le 5, 3) := by decide +kernel
theorem dX3_isOfTrials_20 : decode cX3_isOfTrials 20 = .ok (.iconst 0, 1) := by decide +kernel
theorem dX3_isOfTrials_21 : decode cX3_isOfTrials 21 = .ok (.ireturn, 1) := by decide +kernel
theorem dX3_isOfTrials_22 : decode cX3_isOfTrials 22 = .ok (.iinc 1 2, 3) := by decide +kernel
theorem dX3_isOfTrials_25 : decode cX3_isOfTrials 25 = .ok (.goto (-23), 3) := by decide +kernel
theorem dX3_isOfTrials_28 : decode cX3_isOfTrials 28 = .ok (.aload_n 0, 1) := by decide +kernel
theorem dX3_isOfTrials_29 : decode cX3_isOfTrials 29 = .ok (.getfield 15, 3) := by decide +kernel
theorem dX3_isOfTrials_32 : decode cX3_isOfTrials 32 = .ok (.iconst 2, 1) := by decide +kernel
theorem dX3_isOfTrials_33 : decode cX3_isOfTrials 33 = .ok (.irem, 1) := by decide +kernel
theorem dX3_isOfTrials_34 : decode cX3_isOfTrials 34 = .ok (.ifCond .ne 7, 3) := by decide +kernel
theorem dX3_isOfTrials_37 : decode cX3_isOfTrials 37 = .ok (.iconst 1, 1) := by decide +kernel
theorem dX3_isOfTrials_38 : decode cX3_isOfTrials 38 = .ok (.goto 4, 3) := by decide +kernel
theorem dX3_isOfTrials_41 : decode cX3_isOfTrials 41 = .ok (.iconst 0, 1) := by decide +kernel
theorem dX3_isOfTrials_42 : decode cX3_isOfTrials 42 = .ok (.ireturn, 1) := by decide +kernel
set_option maxRecDepth 20000 in
theorem ggX3_leastBinding_X3_allSo : GoodIn wsX3_leastBinding wsX3_allSo := goodIn_r _ [5, 6, 7, 8, 9] (by decide +kernel) (by decide +kernel)
set_option maxRecDepth 20000 in
theorem gX3_leastBinding_X3_allSo : GoodIn wsX3_leastBinding (wsV RX3 19 RX3 yX3_allSo wsX3_allSo) := goodIn_app (goodIn_of _ (by decide +kernel)) ggX3_leastBinding_X3_allSo
theorem dX3_leastBinding_0 : decode cX3_leastBinding 0 = .ok (.iconst 0, 1) := by decide +kernel
theorem dX3_leastBinding_1 : decode cX3_leastBinding 1 = .ok (.istore_n 2, 1) := by decide +kernel
theorem dX3_leastBinding_2 : decode cX3_leastBinding 2 = .ok (.iload_n 2, 1) := by decide +kernel
theorem dX3_leastBinding_3 : decode cX3_leastBinding 3 = .ok (.bipush 20, 2) := by decide +kernel
theorem dX3_leastBinding_5 : decode cX3_leastBinding 5 = .ok (.if_icmp .gt 20, 3) := by decide +kernel
theorem dX3_leastBinding_8 : decode cX3_leastBinding 8 = .ok (.aload_n 0, 1) := by decide +kernel
theorem dX3_leastBinding_9 : decode cX3_leastBinding 9 = .ok (.iload_n 2, 1) := by decide +kernel
theorem dX3_leastBinding_10 : decode cX3_leastBinding 10 = .ok (.iload_n 1, 1) := by decide +kernel
theorem dX3_leastBinding_11 : decode cX3_leastBinding 11 = .ok (.invokevirtual 19, 3) := by decide +kernel
theorem dX3_leastBinding_14 : decode cX3_leastBinding 14 = .ok (.ifCond .eq 5, 3) := by decide +kernel
theorem dX3_leastBinding_17 : decode cX3_leastBinding 17 = .ok (.iload_n 2, 1) := by decide +kernel
theorem dX3_leastBinding_18 : decode cX3_leastBinding 18 = .ok (.ireturn, 1) := by decide +kernel
theorem dX3_leastBinding_19 : decode cX3_leastBinding 19 = .ok (.iinc 2 1, 3) := by decide +kernel
theorem dX3_leastBinding_22 : decode cX3_leastBinding 22 = .ok (.goto (-20), 3) := by decide +kernel
theorem dX3_leastBinding_25 : decode cX3_leastBinding 25 = .ok (.bipush (-9), 2) := by decide +kernel
theorem dX3_leastBinding_27 : decode cX3_leastBinding 27 = .ok (.ireturn, 1) := by decide +kernel
set_option maxRecDepth 20000 in
theorem ggX3_greatestBinding_X3_allSo : GoodIn wsX3_greatestBinding wsX3_allSo := goodIn_r _ [5, 6, 7, 8, 9] (by decide +kernel) (by decide +kernel)
set_option maxRecDepth 20000 in
theorem gX3_greatestBinding_X3_allSo : GoodIn wsX3_greatestBinding (wsV RX3 19 RX3 yX3_allSo wsX3_allSo) := goodIn_app (goodIn_of _ (by decide +kernel)) ggX3_greatestBinding_X3_allSo
theorem dX3_greatestBinding_0 : decode cX3_greatestBinding 0 = .ok (.bipush 20, 2) := by decide +kernel
theorem dX3_greatestBinding_2 : decode cX3_greatestBinding 2 = .ok (.istore_n 2, 1) := by decide +kernel
theorem dX3_greatestBinding_3 : decode cX3_greatestBinding 3 = .ok (.iload_n 2, 1) := by decide +kernel
theorem dX3_greatestBinding_4 : decode cX3_greatestBinding 4 = .ok (.ifCond .lt 20, 3) := by decide +kernel
theorem dX3_greatestBinding_7 : decode cX3_greatestBinding 7 = .ok (.aload_n 0, 1) := by decide +kernel
theorem dX3_greatestBinding_8 : decode cX3_greatestBinding 8 = .ok (.iload_n 2, 1) := by decide +kernel
theorem dX3_greatestBinding_9 : decode cX3_greatestBinding 9 = .ok (.iload_n 1, 1) := by decide +kernel
theorem dX3_greatestBinding_10 : decode cX3_greatestBinding 10 = .ok (.invokevirtual 19, 3) := by decide +kernel
theorem dX3_greatestBinding_13 : decode cX3_greatestBinding 13 = .ok (.ifCond .eq 5, 3) := by decide +kernel
theorem dX3_greatestBinding_16 : decode cX3_greatestBinding 16 = .ok (.iload_n 2, 1) := by decide +kernel
theorem dX3_greatestBinding_17 : decode cX3_greatestBinding 17 = .ok (.ireturn, 1) := by decide +kernel
theorem dX3_greatestBinding_18 : decode cX3_greatestBinding 18 = .ok (.iinc 2 (-1), 3) := by decide +kernel
theorem dX3_greatestBinding_21 : decode cX3_greatestBinding 21 = .ok (.goto (-18), 3) := by decide +kernel
theorem dX3_greatestBinding_24 : decode cX3_greatestBinding 24 = .ok (.bipush (-9), 2) := by decide +kernel
theorem dX3_greatestBinding_26 : decode cX3_greatestBinding 26 = .ok (.ireturn, 1) := by decide +kernel
theorem dX3_allSo_0 : decode cX3_allSo 0 = .ok (.iconst 1, 1) := by decide +kernel
theorem dX3_allSo_1 : decode cX3_allSo 1 = .ok (.istore_n 3, 1) := by decide +kernel
theorem dX3_allSo_2 : decode cX3_allSo 2 = .ok (.iload_n 3, 1) := by decide +kernel
theorem dX3_allSo_3 : decode cX3_allSo 3 = .ok (.aload_n 0, 1) := by decide +kernel
theorem dX3_allSo_4 : decode cX3_allSo 4 = .ok (.getfield 15, 3) := by decide +kernel
theorem dX3_allSo_7 : decode cX3_allSo 7 = .ok (.if_icmp .ge 52, 3) := by decide +kernel
theorem dX3_allSo_10 : decode cX3_allSo 10 = .ok (.aload_n 0, 1) := by decide +kernel
theorem dX3_allSo_11 : decode cX3_allSo 11 = .ok (.getfield 9, 3) := by decide +kernel
theorem dX3_allSo_14 : decode cX3_allSo 14 = .ok (.iload_n 3, 1) := by decide +kernel
theorem dX3_allSo_15 : decode cX3_allSo 15 = .ok (.iconst 1, 1) := by decide +kernel
theorem dX3_allSo_16 : decode cX3_allSo 16 = .ok (.isub, 1) := by decide +kernel
theorem dX3_allSo_17 : decode cX3_allSo 17 = .ok (.iaload, 1) := by decide +kernel
theorem dX3_allSo_18 : decode cX3_allSo 18 = .ok (.iload_n 1, 1) := by decide +kernel
theorem dX3_allSo_19 : decode cX3_allSo 19 = .ok (.imul, 1) := by decide +kernel
theorem dX3_allSo_20 : decode cX3_allSo 20 = .ok (.iload_n 2, 1) := by decide +kernel
theorem dX3_allSo_21 : decode cX3_allSo 21 = .ok (.if_icmp .lt 7, 3) := by decide +kernel
theorem dX3_allSo_24 : decode cX3_allSo 24 = .ok (.iconst 1, 1) := by decide +kernel
theorem dX3_allSo_25 : decode cX3_allSo 25 = .ok (.goto 4, 3) := by decide +kernel
theorem dX3_allSo_28 : decode cX3_allSo 28 = .ok (.iconst 0, 1) := by decide +kernel
theorem dX3_allSo_29 : decode cX3_allSo 29 = .ok (.istore 4, 2) := by decide +kernel
theorem dX3_allSo_31 : decode cX3_allSo 31 = .ok (.iload 4, 2) := by decide +kernel
theorem dX3_allSo_33 : decode cX3_allSo 33 = .ok (.aload_n 0, 1) := by decide +kernel
theorem dX3_allSo_34 : decode cX3_allSo 34 = .ok (.getfield 9, 3) := by decide +kernel
theorem dX3_allSo_37 : decode cX3_allSo 37 = .ok (.iload_n 3, 1) := by decide +kernel
theorem dX3_allSo_38 : decode cX3_allSo 38 = .ok (.iaload, 1) := by decide +kernel
theorem dX3_allSo_39 : decode cX3_allSo 39 = .ok (.iconst 1, 1) := by decide +kernel
theorem dX3_allSo_40 : decode cX3_allSo 40 = .ok (.if_icmp .ne 7, 3) := by decide +kernel
theorem dX3_allSo_43 : decode cX3_allSo 43 = .ok (.iconst 1, 1) := by decide +kernel
theorem dX3_allSo_44 : decode cX3_allSo 44 = .ok (.goto 4, 3) := by decide +kernel
theorem dX3_allSo_47 : decode cX3_allSo 47 = .ok (.iconst 0, 1) := by decide +kernel
theorem dX3_allSo_48 : decode cX3_allSo 48 = .ok (.if_icmp .eq 5, 3) := by decide +kernel
theorem dX3_allSo_51 : decode cX3_allSo 51 = .ok (.iconst 0, 1) := by decide +kernel
theorem dX3_allSo_52 : decode cX3_allSo 52 = .ok (.ireturn, 1) := by decide +kernel
theorem dX3_allSo_53 : decode cX3_allSo 53 = .ok (.iinc 3 2, 3) := by decide +kernel
theorem dX3_allSo_56 : decode cX3_allSo 56 = .ok (.goto (-54), 3) := by decide +kernel
theorem dX3_allSo_59 : decode cX3_allSo 59 = .ok (.iconst 1, 1) := by decide +kernel
theorem dX3_allSo_60 : decode cX3_allSo 60 = .ok (.ireturn, 1) := by decide +kernel
set_option maxRecDepth 20000 in
theorem ggX4_init_X5_init : GoodIn wsX4_init wsX5_init := goodIn_r _ [25, 26, 2, 3, 4, 27, 28, 29, 30, 41, 42, 43, 44] (by decide +kernel) (by decide +kernel)
set_option maxRecDepth 20000 in
theorem gX4_init_X5_init_n47 : GoodIn wsX4_init (wsX5_init) := ggX4_init_X5_init
theorem dX4_init_0 : decode cX4_init 0 = .ok (.aload_n 0, 1) := by decide +kernel
theorem dX4_init_1 : decode cX4_init 1 = .ok (.invokespecial 3, 3) := by decide +kernel
theorem dX4_init_4 : decode cX4_init 4 = .ok (.aload_n 0, 1) := by decide +kernel
theorem dX4_init_5 : decode cX4_init 5 = .ok (.bipush 12, 2) := by decide +kernel
theorem dX4_init_7 : decode cX4_init 7 = .ok (.newarray .int, 2) := by decide +kernel
theorem dX4_init_9 : decode cX4_init 9 = .ok (.putfield 11, 3) := by decide +kernel
theorem dX4_init_12 : decode cX4_init 12 = .ok (.aload_n 0, 1) := by decide +kernel
theorem dX4_init_13 : decode cX4_init 13 = .ok (.bipush 12, 2) := by decide +kernel
theorem dX4_init_15 : decode cX4_init 15 = .ok (.newarray .int, 2) := by decide +kernel
theorem dX4_init_17 : decode cX4_init 17 = .ok (.putfield 15, 3) := by decide +kernel
theorem dX4_init_20 : decode cX4_init 20 = .ok (.aload_n 0, 1) := by decide +kernel
theorem dX4_init_21 : decode cX4_init 21 = .ok (.bipush 12, 2) := by decide +kernel
theorem dX4_init_23 : decode cX4_init 23 = .ok (.newarray .int, 2) := by decide +kernel
theorem dX4_init_25 : decode cX4_init 25 = .ok (.putfield 18, 3) := by decide +kernel
theorem dX4_init_28 : decode cX4_init 28 = .ok (.aload_n 0, 1) := by decide +kernel
theorem dX4_init_29 : decode cX4_init 29 = .ok (.bipush 12, 2) := by decide +kernel
theorem dX4_init_31 : decode cX4_init 31 = .ok (.newarray .int, 2) := by decide +kernel
theorem dX4_init_33 : decode cX4_init 33 = .ok (.putfield 21, 3) := by decide +kernel
theorem dX4_init_36 : decode cX4_init 36 = .ok (.aload_n 0, 1) := by decide +kernel
theorem dX4_init_37 : decode cX4_init 37 = .ok (.bipush 12, 2) := by decide +kernel
theorem dX4_init_39 : decode cX4_init 39 = .ok (.newarray .int, 2) := by decide +kernel
theorem dX4_init_41 : decode cX4_init 41 = .ok (.putfield 24, 3) := by decide +kernel
theorem dX4_init_44 : decode cX4_init 44 = .ok (.aload_n 0, 1) := by decide +kernel
theorem dX4_init_45 : decode cX4_init 45 = .ok (.bipush 12, 2) := by decide +kernel
theorem dX4_init_47 : decode cX4_init 47 = .ok (.newarray .int, 2) := by decide +kernel
theorem dX4_init_49 : decode cX4_init 49 = .ok (.putfield 27, 3) := by decide +kernel
theorem dX4_init_52 : decode cX4_init 52 = .ok (.aload_n 0, 1) := by decide +kernel
theorem dX4_init_53 : decode cX4_init 53 = .ok (.iconst 0, 1) := by decide +kernel
theorem dX4_init_54 : decode cX4_init 54 = .ok (.putfield 30, 3) := by decide +kernel
theorem dX4_init_57 : decode cX4_init 57 = .ok (.aload_n 0, 1) := by decide +kernel
theorem dX4_init_58 : decode cX4_init 58 = .ok (.getstatic 34, 3) := by decide +kernel
theorem dX4_init_61 : decode cX4_init 61 = .ok (.invokevirtual 37, 3) := by decide +kernel
theorem dX4_init_64 : decode cX4_init 64 = .ok (.checkcast 38, 3) := by decide +kernel
theorem dX4_init_67 : decode cX4_init 67 = .ok (.putfield 42, 3) := by decide +kernel
theorem dX4_init_70 : decode cX4_init 70 = .ok (.aload_n 0, 1) := by decide +kernel
theorem dX4_init_71 : decode cX4_init 71 = .ok (.iconst 2, 1) := by decide +kernel
theorem dX4_init_72 : decode cX4_init 72 = .ok (.anewarray 45, 3) := by decide +kernel
theorem dX4_init_75 : decode cX4_init 75 = .ok (.dup, 1) := by decide +kernel
theorem dX4_init_76 : decode cX4_init 76 = .ok (.iconst 0, 1) := by decide +kernel
theorem dX4_init_77 : decode cX4_init 77 = .ok (.new 45, 3) := by decide +kernel
theorem dX4_init_80 : decode cX4_init 80 = .ok (.dup, 1) := by decide +kernel
theorem dX4_init_81 : decode cX4_init 81 = .ok (.invokespecial 47, 3) := by decide +kernel
theorem dX4_init_84 : decode cX4_init 84 = .ok (.aastore, 1) := by decide +kernel
theorem dX4_init_85 : decode cX4_init 85 = .ok (.dup, 1) := by decide +kernel
theorem dX4_init_86 : decode cX4_init 86 = .ok (.iconst 1, 1) := by decide +kernel
theorem dX4_init_87 : decode cX4_init 87 = .ok (.new 45, 3) := by decide +kernel
theorem dX4_init_90 : decode cX4_init 90 = .ok (.dup, 1) := by decide +kernel
theorem dX4_init_91 : decode cX4_init 91 = .ok (.invokespecial 47, 3) := by decide +kernel
theorem dX4_init_94 : decode cX4_init 94 = .ok (.aastore, 1) := by decide +kernel
theorem dX4_init_95 : decode cX4_init 95 = .ok (.putfield 48, 3) := by decide +kernel
theorem dX4_init_98 : decode cX4_init 98 = .ok (.aload_n 0, 1) := by decide +kernel
theorem dX4_init_99 : decode cX4_init 99 = .ok (.iconst 4, 1) := by decide +kernel
theorem dX4_init_100 : decode cX4_init 100 = .ok (.newarray .int, 2) := by decide +kernel
theorem dX4_init_102 : decode cX4_init 102 = .ok (.putfield 52, 3) := by decide +kernel
theorem dX4_init_105 : decode cX4_init 105 = .ok (.return_, 1) := by decide +kernel
set_option maxRecDepth 20000 in
theorem ggX4_become_X5_become : GoodIn wsX4_become wsX5_become := goodIn_r _ [17, 18, 19, 3, 4, 5, 20, 21, 22, 33, 34, 35, 36] (by decide +kernel) (by decide +kernel)
set_option maxRecDepth 20000 in
theorem gX4_become_X5_become_n61 : GoodIn wsX4_become (wsX5_become) := ggX4_become_X5_become
theorem dX4_become_0 : decode cX4_become 0 = .ok (.aload_n 1, 1) := by decide +kernel
theorem dX4_become_1 : decode cX4_become 1 = .ok (.getfield 11, 3) := by decide +kernel
theorem dX4_become_4 : decode cX4_become 4 = .ok (.iconst 0, 1) := by decide +kernel
theorem dX4_become_5 : decode cX4_become 5 = .ok (.aload_n 0, 1) := by decide +kernel
theorem dX4_become_6 : decode cX4_become 6 = .ok (.getfield 11, 3) := by decide +kernel
theorem dX4_become_9 : decode cX4_become 9 = .ok (.iconst 0, 1) := by decide +kernel
theorem dX4_become_10 : decode cX4_become 10 = .ok (.bipush 12, 2) := by decide +kernel
theorem dX4_become_12 : decode cX4_become 12 = .ok (.invokestatic 55, 3) := by decide +kernel
theorem dX4_become_15 : decode cX4_become 15 = .ok (.aload_n 1, 1) := by decide +kernel
theorem dX4_become_16 : decode cX4_become 16 = .ok (.getfield 15, 3) := by decide +kernel
theorem dX4_become_19 : decode cX4_become 19 = .ok (.iconst 0, 1) := by decide +kernel
theorem dX4_become_20 : decode cX4_become 20 = .ok (.aload_n 0, 1) := by decide +kernel
theorem dX4_become_21 : decode cX4_become 21 = .ok (.getfield 15, 3) := by decide +kernel
theorem dX4_become_24 : decode cX4_become 24 = .ok (.iconst 0, 1) := by decide +kernel
theorem dX4_become_25 : decode cX4_become 25 = .ok (.bipush 12, 2) := by decide +kernel
theorem dX4_become_27 : decode cX4_become 27 = .ok (.invokestatic 55, 3) := by decide +kernel
theorem dX4_become_30 : decode cX4_become 30 = .ok (.aload_n 1, 1) := by decide +kernel
theorem dX4_become_31 : decode cX4_become 31 = .ok (.getfield 18, 3) := by decide +kernel
theorem dX4_become_34 : decode cX4_become 34 = .ok (.iconst 0, 1) := by decide +kernel
theorem dX4_become_35 : decode cX4_become 35 = .ok (.aload_n 0, 1) := by decide +kernel
theorem dX4_become_36 : decode cX4_become 36 = .ok (.getfield 18, 3) := by decide +kernel
theorem dX4_become_39 : decode cX4_become 39 = .ok (.iconst 0, 1) := by decide +kernel
theorem dX4_become_40 : decode cX4_become 40 = .ok (.bipush 12, 2) := by decide +kernel
theorem dX4_become_42 : decode cX4_become 42 = .ok (.invokestatic 55, 3) := by decide +kernel
theorem dX4_become_45 : decode cX4_become 45 = .ok (.aload_n 1, 1) := by decide +kernel
theorem dX4_become_46 : decode cX4_become 46 = .ok (.getfield 21, 3) := by decide +kernel
theorem dX4_become_49 : decode cX4_become 49 = .ok (.iconst 0, 1) := by decide +kernel
theorem dX4_become_50 : decode cX4_become 50 = .ok (.aload_n 0, 1) := by decide +kernel
theorem dX4_become_51 : decode cX4_become 51 = .ok (.getfield 21, 3) := by decide +kernel
theorem dX4_become_54 : decode cX4_become 54 = .ok (.iconst 0, 1) := by decide +kernel
theorem dX4_become_55 : decode cX4_become 55 = .ok (.bipush 12, 2) := by decide +kernel
theorem dX4_become_57 : decode cX4_become 57 = .ok (.invokestatic 55, 3) := by decide +kernel
theorem dX4_become_60 : decode cX4_become 60 = .ok (.aload_n 1, 1) := by decide +kernel
theorem dX4_become_61 : decode cX4_become 61 = .ok (.getfield 24, 3) := by decide +kernel
theorem dX4_become_64 : decode cX4_become 64 = .ok (.iconst 0, 1) := by decide +kernel
theorem dX4_become_65 : decode cX4_become 65 = .ok (.aload_n 0, 1) := by decide +kernel
theorem dX4_become_66 : decode cX4_become 66 = .ok (.getfield 24, 3) := by decide +kernel
theorem dX4_become_69 : decode cX4_become 69 = .ok (.iconst 0, 1) := by decide +kernel
theorem dX4_become_70 : decode cX4_become 70 = .ok (.bipush 12, 2) := by decide +kernel
theorem dX4_become_72 : decode cX4_become 72 = .ok (.invokestatic 55, 3) := by decide +kernel
theorem dX4_become_75 : decode cX4_become 75 = .ok (.aload_n 1, 1) := by decide +kernel
theorem dX4_become_76 : decode cX4_become 76 = .ok (.getfield 27, 3) := by decide +kernel
theorem dX4_become_79 : decode cX4_become 79 = .ok (.iconst 0, 1) := by decide +kernel
theorem dX4_become_80 : decode cX4_become 80 = .ok (.aload_n 0, 1) := by decide +kernel
theorem dX4_become_81 : decode cX4_become 81 = .ok (.getfield 27, 3) := by decide +kernel
theorem dX4_become_84 : decode cX4_become 84 = .ok (.iconst 0, 1) := by decide +kernel
theorem dX4_become_85 : decode cX4_become 85 = .ok (.bipush 12, 2) := by decide +kernel
theorem dX4_become_87 : decode cX4_become 87 = .ok (.invokestatic 55, 3) := by decide +kernel
theorem dX4_become_90 : decode cX4_become 90 = .ok (.aload_n 0, 1) := by decide +kernel
theorem dX4_become_91 : decode cX4_become 91 = .ok (.aload_n 1, 1) := by decide +kernel
theorem dX4_become_92 : decode cX4_become 92 = .ok (.getfield 30, 3) := by decide +kernel
theorem dX4_become_95 : decode cX4_become 95 = .ok (.putfield 30, 3) := by decide +kernel
theorem dX4_become_98 : decode cX4_become 98 = .ok (.aload_n 1, 1) := by decide +kernel
theorem dX4_become_99 : decode cX4_become 99 = .ok (.getfield 42, 3) := by decide +kernel
theorem dX4_become_102 : decode cX4_become 102 = .ok (.iconst 0, 1) := by decide +kernel
theorem dX4_become_103 : decode cX4_become 103 = .ok (.aload_n 0, 1) := by decide +kernel
theorem dX4_become_104 : decode cX4_become 104 = .ok (.getfield 42, 3) := by decide +kernel
theorem dX4_become_107 : decode cX4_become 107 = .ok (.iconst 0, 1) := by decide +kernel
theorem dX4_become_108 : decode cX4_become 108 = .ok (.aload_n 0, 1) := by decide +kernel
theorem dX4_become_109 : decode cX4_become 109 = .ok (.getfield 42, 3) := by decide +kernel
theorem dX4_become_112 : decode cX4_become 112 = .ok (.arraylength, 1) := by decide +kernel
theorem dX4_become_113 : decode cX4_become 113 = .ok (.invokestatic 55, 3) := by decide +kernel
theorem dX4_become_116 : decode cX4_become 116 = .ok (.aload_n 0, 1) := by decide +kernel
theorem dX4_become_117 : decode cX4_become 117 = .ok (.getfield 48, 3) := by decide +kernel
theorem dX4_become_120 : decode cX4_become 120 = .ok (.iconst 0, 1) := by decide +kernel
theorem dX4_become_121 : decode cX4_become 121 = .ok (.aaload, 1) := by decide +kernel
theorem dX4_become_122 : decode cX4_become 122 = .ok (.aload_n 1, 1) := by decide +kernel
theorem dX4_become_123 : decode cX4_become 123 = .ok (.getfield 48, 3) := by decide +kernel
theorem dX4_become_126 : decode cX4_become 126 = .ok (.iconst 0, 1) := by decide +kernel
theorem dX4_become_127 : decode cX4_become 127 = .ok (.aaload, 1) := by decide +kernel
theorem dX4_become_128 : decode cX4_become 128 = .ok (.invokevirtual 61, 3) := by decide +kernel
theorem dX4_become_131 : decode cX4_become 131 = .ok (.aload_n 0, 1) := by decide +kernel
theorem dX4_become_132 : decode cX4_become 132 = .ok (.getfield 48, 3) := by decide +kernel
theorem dX4_become_135 : decode cX4_become 135 = .ok (.iconst 1, 1) := by decide +kernel
theorem dX4_become_136 : decode cX4_become 136 = .ok (.aaload, 1) := by decide +kernel
theorem dX4_become_137 : decode cX4_become 137 = .ok (.aload_n 1, 1) := by decide +kernel
theorem dX4_become_138 : decode cX4_become 138 = .ok (.getfield 48, 3) := by decide +kernel
theorem dX4_become_141 : decode cX4_become 141 = .ok (.iconst 1, 1) := by decide +kernel
theorem dX4_become_142 : decode cX4_become 142 = .ok (.aaload, 1) := by decide +kernel
theorem dX4_become_143 : decode cX4_become 143 = .ok (.invokevirtual 61, 3) := by decide +kernel
theorem dX4_become_146 : decode cX4_become 146 = .ok (.return_, 1) := by decide +kernel
theorem dX4_hasLayer_0 : decode cX4_hasLayer 0 = .ok (.iload_n 1, 1) := by decide +kernel
theorem dX4_hasLayer_1 : decode cX4_hasLayer 1 = .ok (.ifCond .lt 15, 3) := by decide +kernel
theorem dX4_hasLayer_4 : decode cX4_hasLayer 4 = .ok (.iload_n 1, 1) := by decide +kernel
theorem dX4_hasLayer_5 : decode cX4_hasLayer 5 = .ok (.aload_n 0, 1) := by decide +kernel
theorem dX4_hasLayer_6 : decode cX4_hasLayer 6 = .ok (.getfield 30, 3) := by decide +kernel
theorem dX4_hasLayer_9 : decode cX4_hasLayer 9 = .ok (.if_icmp .ge 7, 3) := by decide +kernel
theorem dX4_hasLayer_12 : decode cX4_hasLayer 12 = .ok (.iconst 1, 1) := by decide +kernel
theorem dX4_hasLayer_13 : decode cX4_hasLayer 13 = .ok (.goto 4, 3) := by decide +kernel
theorem dX4_hasLayer_16 : decode cX4_hasLayer 16 = .ok (.iconst 0, 1) := by decide +kernel
theorem dX4_hasLayer_17 : decode cX4_hasLayer 17 = .ok (.ireturn, 1) := by decide +kernel
theorem dX4_hasWay_0 : decode cX4_hasWay 0 = .ok (.iload_n 1, 1) := by decide +kernel
theorem dX4_hasWay_1 : decode cX4_hasWay 1 = .ok (.ifCond .lt 16, 3) := by decide +kernel
theorem dX4_hasWay_4 : decode cX4_hasWay 4 = .ok (.iload_n 1, 1) := by decide +kernel
theorem dX4_hasWay_5 : decode cX4_hasWay 5 = .ok (.aload_n 0, 1) := by decide +kernel
theorem dX4_hasWay_6 : decode cX4_hasWay 6 = .ok (.getfield 48, 3) := by decide +kernel
theorem dX4_hasWay_9 : decode cX4_hasWay 9 = .ok (.arraylength, 1) := by decide +kernel
theorem dX4_hasWay_10 : decode cX4_hasWay 10 = .ok (.if_icmp .ge 7, 3) := by decide +kernel
theorem dX4_hasWay_13 : decode cX4_hasWay 13 = .ok (.iconst 1, 1) := by decide +kernel
theorem dX4_hasWay_14 : decode cX4_hasWay 14 = .ok (.goto 4, 3) := by decide +kernel
theorem dX4_hasWay_17 : decode cX4_hasWay 17 = .ok (.iconst 0, 1) := by decide +kernel
theorem dX4_hasWay_18 : decode cX4_hasWay 18 = .ok (.ireturn, 1) := by decide +kernel
set_option maxRecDepth 20000 in
theorem ggX4_hasPiece_X4_hasWay : GoodIn wsX4_hasPiece wsX4_hasWay := goodIn_r _ [6, 1, 7, 8, 9, 10, 11, 12, 13, 14, 15, 16] (by decide +kernel) (by decide +kernel)
set_option maxRecDepth 20000 in
theorem gX4_hasPiece_X4_hasWay : GoodIn wsX4_hasPiece (wsV RX4 65 RX4 yX4_hasWay wsX4_hasWay) := goodIn_app (goodIn_of _ (by decide +kernel)) ggX4_hasPiece_X4_hasWay
theorem dX4_hasPiece_0 : decode cX4_hasPiece 0 = .ok (.aload_n 0, 1) := by decide +kernel
theorem dX4_hasPiece_1 : decode cX4_hasPiece 1 = .ok (.iload_n 1, 1) := by decide +kernel
theorem dX4_hasPiece_2 : decode cX4_hasPiece 2 = .ok (.invokevirtual 65, 3) := by decide +kernel
theorem dX4_hasPiece_5 : decode cX4_hasPiece 5 = .ok (.ifCond .eq 24, 3) := by decide +kernel
theorem dX4_hasPiece_8 : decode cX4_hasPiece 8 = .ok (.iload_n 2, 1) := by decide +kernel
theorem dX4_hasPiece_9 : decode cX4_hasPiece 9 = .ok (.ifCond .lt 20, 3) := by decide +kernel
theorem dX4_hasPiece_12 : decode cX4_hasPiece 12 = .ok (.iload_n 2, 1) := by decide +kernel
theorem dX4_hasPiece_13 : decode cX4_hasPiece 13 = .ok (.aload_n 0, 1) := by decide +kernel
theorem dX4_hasPiece_14 : decode cX4_hasPiece 14 = .ok (.getfield 48, 3) := by decide +kernel
theorem dX4_hasPiece_17 : decode cX4_hasPiece 17 = .ok (.iload_n 1, 1) := by decide +kernel
theorem dX4_hasPiece_18 : decode cX4_hasPiece 18 = .ok (.aaload, 1) := by decide +kernel
theorem dX4_hasPiece_19 : decode cX4_hasPiece 19 = .ok (.getfield 69, 3) := by decide +kernel
theorem dX4_hasPiece_22 : decode cX4_hasPiece 22 = .ok (.if_icmp .ge 7, 3) := by decide +kernel
theorem dX4_hasPiece_25 : decode cX4_hasPiece 25 = .ok (.iconst 1, 1) := by decide +kernel
theorem dX4_hasPiece_26 : decode cX4_hasPiece 26 = .ok (.goto 4, 3) := by decide +kernel
theorem dX4_hasPiece_29 : decode cX4_hasPiece 29 = .ok (.iconst 0, 1) := by decide +kernel
theorem dX4_hasPiece_30 : decode cX4_hasPiece 30 = .ok (.ireturn, 1) := by decide +kernel
theorem dX4_turn_0 : decode cX4_turn 0 = .ok (.iload_n 2, 1) := by decide +kernel
theorem dX4_turn_1 : decode cX4_turn 1 = .ok (.getstatic 72, 3) := by decide +kernel
theorem dX4_turn_4 : decode cX4_turn 4 = .ok (.iload_n 1, 1) := by decide +kernel
theorem dX4_turn_5 : decode cX4_turn 5 = .ok (.iaload, 1) := by decide +kernel
theorem dX4_turn_6 : decode cX4_turn 6 = .ok (.if_icmp .lt 12, 3) := by decide +kernel
theorem dX4_turn_9 : decode cX4_turn 9 = .ok (.iload_n 2, 1) := by decide +kernel
theorem dX4_turn_10 : decode cX4_turn 10 = .ok (.getstatic 75, 3) := by decide +kernel
theorem dX4_turn_13 : decode cX4_turn 13 = .ok (.iload_n 1, 1) := by decide +kernel
theorem dX4_turn_14 : decode cX4_turn 14 = .ok (.iaload, 1) := by decide +kernel
theorem dX4_turn_15 : decode cX4_turn 15 = .ok (.if_icmp .le 5, 3) := by decide +kernel
theorem dX4_turn_18 : decode cX4_turn 18 = .ok (.iconst 0, 1) := by decide +kernel
theorem dX4_turn_19 : decode cX4_turn 19 = .ok (.ireturn, 1) := by decide +kernel
theorem dX4_turn_20 : decode cX4_turn 20 = .ok (.aload_n 0, 1) := by decide +kernel
theorem dX4_turn_21 : decode cX4_turn 21 = .ok (.getfield 42, 3) := by decide +kernel
theorem dX4_turn_24 : decode cX4_turn 24 = .ok (.iload_n 1, 1) := by decide +kernel
theorem dX4_turn_25 : decode cX4_turn 25 = .ok (.iload_n 2, 1) := by decide +kernel
theorem dX4_turn_26 : decode cX4_turn 26 = .ok (.iastore, 1) := by decide +kernel
theorem dX4_turn_27 : decode cX4_turn 27 = .ok (.iconst 1, 1) := by decide +kernel
theorem dX4_turn_28 : decode cX4_turn 28 = .ok (.ireturn, 1) := by decide +kernel
set_option maxRecDepth 20000 in
theorem ggX4_lay_X0_binding : GoodIn wsX4_lay wsX0_binding := goodIn_r _ [14, 15, 16, 4, 17] (by decide +kernel) (by decide +kernel)
set_option maxRecDepth 20000 in
theorem gX4_lay_X0_binding_n84 : GoodIn wsX4_lay (wsX0_binding) := ggX4_lay_X0_binding
set_option maxRecDepth 20000 in
theorem ggX4_lay_X4_weightOf : GoodIn wsX4_lay wsX4_weightOf := goodIn_r _ [22, 6, 7, 23, 13, 24, 29, 30, 31, 32, 33, 34, 35, 36, 37, 38] (by decide +kernel) (by decide +kernel)
set_option maxRecDepth 20000 in
theorem gX4_lay_X4_weightOf : GoodIn wsX4_lay (wsV RX4 90 RX4 yX4_weightOf wsX4_weightOf) := goodIn_app (goodIn_of _ (by decide +kernel)) ggX4_lay_X4_weightOf
set_option maxRecDepth 20000 in
theorem ggX4_lay_X4_bear : GoodIn wsX4_lay wsX4_bear := goodIn_r _ [28, 1, 11, 29, 30, 31, 32, 33, 34, 35, 36, 37, 38] (by decide +kernel) (by decide +kernel)
set_option maxRecDepth 20000 in
theorem gX4_lay_X4_bear : GoodIn wsX4_lay (wsV RX4 93 RX4 yX4_bear wsX4_bear) := goodIn_app (goodIn_of _ (by decide +kernel)) ggX4_lay_X4_bear
theorem dX4_lay_0 : decode cX4_lay 0 = .ok (.aload_n 0, 1) := by decide +kernel
theorem dX4_lay_1 : decode cX4_lay 1 = .ok (.getfield 30, 3) := by decide +kernel
theorem dX4_lay_4 : decode cX4_lay 4 = .ok (.bipush 12, 2) := by decide +kernel
theorem dX4_lay_6 : decode cX4_lay 6 = .ok (.if_icmp .ge 23, 3) := by decide +kernel
theorem dX4_lay_9 : decode cX4_lay 9 = .ok (.iload_n 2, 1) := by decide +kernel
theorem dX4_lay_10 : decode cX4_lay 10 = .ok (.iconst 1, 1) := by decide +kernel
theorem dX4_lay_11 : decode cX4_lay 11 = .ok (.if_icmp .lt 18, 3) := by decide +kernel
theorem dX4_lay_14 : decode cX4_lay 14 = .ok (.iload_n 2, 1) := by decide +kernel
theorem dX4_lay_15 : decode cX4_lay 15 = .ok (.bipush 20, 2) := by decide +kernel
theorem dX4_lay_17 : decode cX4_lay 17 = .ok (.if_icmp .gt 12, 3) := by decide +kernel
theorem dX4_lay_20 : decode cX4_lay 20 = .ok (.iload 4, 2) := by decide +kernel
theorem dX4_lay_22 : decode cX4_lay 22 = .ok (.invokestatic 78, 3) := by decide +kernel
theorem dX4_lay_25 : decode cX4_lay 25 = .ok (.iconst 5, 1) := by decide +kernel
theorem dX4_lay_26 : decode cX4_lay 26 = .ok (.if_icmp .le 5, 3) := by decide +kernel
theorem dX4_lay_29 : decode cX4_lay 29 = .ok (.iconst 0, 1) := by decide +kernel
theorem dX4_lay_30 : decode cX4_lay 30 = .ok (.ireturn, 1) := by decide +kernel
theorem dX4_lay_31 : decode cX4_lay 31 = .ok (.aload_n 0, 1) := by decide +kernel
theorem dX4_lay_32 : decode cX4_lay 32 = .ok (.getfield 11, 3) := by decide +kernel
theorem dX4_lay_35 : decode cX4_lay 35 = .ok (.aload_n 0, 1) := by decide +kernel
theorem dX4_lay_36 : decode cX4_lay 36 = .ok (.getfield 30, 3) := by decide +kernel
theorem dX4_lay_39 : decode cX4_lay 39 = .ok (.iload_n 1, 1) := by decide +kernel
theorem dX4_lay_40 : decode cX4_lay 40 = .ok (.iastore, 1) := by decide +kernel
theorem dX4_lay_41 : decode cX4_lay 41 = .ok (.aload_n 0, 1) := by decide +kernel
theorem dX4_lay_42 : decode cX4_lay 42 = .ok (.getfield 15, 3) := by decide +kernel
theorem dX4_lay_45 : decode cX4_lay 45 = .ok (.aload_n 0, 1) := by decide +kernel
theorem dX4_lay_46 : decode cX4_lay 46 = .ok (.getfield 30, 3) := by decide +kernel
theorem dX4_lay_49 : decode cX4_lay 49 = .ok (.iload_n 2, 1) := by decide +kernel
theorem dX4_lay_50 : decode cX4_lay 50 = .ok (.iastore, 1) := by decide +kernel
theorem dX4_lay_51 : decode cX4_lay 51 = .ok (.aload_n 0, 1) := by decide +kernel
theorem dX4_lay_52 : decode cX4_lay 52 = .ok (.getfield 18, 3) := by decide +kernel
theorem dX4_lay_55 : decode cX4_lay 55 = .ok (.aload_n 0, 1) := by decide +kernel
theorem dX4_lay_56 : decode cX4_lay 56 = .ok (.getfield 30, 3) := by decide +kernel
theorem dX4_lay_59 : decode cX4_lay 59 = .ok (.iload_n 3, 1) := by decide +kernel
theorem dX4_lay_60 : decode cX4_lay 60 = .ok (.iastore, 1) := by decide +kernel
theorem dX4_lay_61 : decode cX4_lay 61 = .ok (.aload_n 0, 1) := by decide +kernel
theorem dX4_lay_62 : decode cX4_lay 62 = .ok (.getfield 21, 3) := by decide +kernel
theorem dX4_lay_65 : decode cX4_lay 65 = .ok (.aload_n 0, 1) := by decide +kernel
theorem dX4_lay_66 : decode cX4_lay 66 = .ok (.getfield 30, 3) := by decide +kernel
theorem dX4_lay_69 : decode cX4_lay 69 = .ok (.iload 4, 2) := by decide +kernel
theorem dX4_lay_71 : decode cX4_lay 71 = .ok (.iastore, 1) := by decide +kernel
theorem dX4_lay_72 : decode cX4_lay 72 = .ok (.aload_n 0, 1) := by decide +kernel
theorem dX4_lay_73 : decode cX4_lay 73 = .ok (.getfield 24, 3) := by decide +kernel
theorem dX4_lay_76 : decode cX4_lay 76 = .ok (.aload_n 0, 1) := by decide +kernel
theorem dX4_lay_77 : decode cX4_lay 77 = .ok (.getfield 30, 3) := by decide +kernel
theorem dX4_lay_80 : decode cX4_lay 80 = .ok (.iload_n 1, 1) := by decide +kernel
theorem dX4_lay_81 : decode cX4_lay 81 = .ok (.iload_n 2, 1) := by decide +kernel
theorem dX4_lay_82 : decode cX4_lay 82 = .ok (.invokestatic 84, 3) := by decide +kernel
theorem dX4_lay_85 : decode cX4_lay 85 = .ok (.iastore, 1) := by decide +kernel
theorem dX4_lay_86 : decode cX4_lay 86 = .ok (.aload_n 0, 1) := by decide +kernel
theorem dX4_lay_87 : decode cX4_lay 87 = .ok (.getfield 27, 3) := by decide +kernel
theorem dX4_lay_90 : decode cX4_lay 90 = .ok (.aload_n 0, 1) := by decide +kernel
theorem dX4_lay_91 : decode cX4_lay 91 = .ok (.getfield 30, 3) := by decide +kernel
theorem dX4_lay_94 : decode cX4_lay 94 = .ok (.iconst 0, 1) := by decide +kernel
theorem dX4_lay_95 : decode cX4_lay 95 = .ok (.iastore, 1) := by decide +kernel
theorem dX4_lay_96 : decode cX4_lay 96 = .ok (.aload_n 0, 1) := by decide +kernel
theorem dX4_lay_97 : decode cX4_lay 97 = .ok (.dup, 1) := by decide +kernel
theorem dX4_lay_98 : decode cX4_lay 98 = .ok (.getfield 30, 3) := by decide +kernel
theorem dX4_lay_101 : decode cX4_lay 101 = .ok (.iconst 1, 1) := by decide +kernel
theorem dX4_lay_102 : decode cX4_lay 102 = .ok (.iadd, 1) := by decide +kernel
theorem dX4_lay_103 : decode cX4_lay 103 = .ok (.putfield 30, 3) := by decide +kernel
theorem dX4_lay_106 : decode cX4_lay 106 = .ok (.aload_n 0, 1) := by decide +kernel
theorem dX4_lay_107 : decode cX4_lay 107 = .ok (.aload_n 0, 1) := by decide +kernel
theorem dX4_lay_108 : decode cX4_lay 108 = .ok (.aload_n 0, 1) := by decide +kernel
theorem dX4_lay_109 : decode cX4_lay 109 = .ok (.getfield 30, 3) := by decide +kernel
theorem dX4_lay_112 : decode cX4_lay 112 = .ok (.iconst 1, 1) := by decide +kernel
theorem dX4_lay_113 : decode cX4_lay 113 = .ok (.isub, 1) := by decide +kernel
theorem dX4_lay_114 : decode cX4_lay 114 = .ok (.invokevirtual 90, 3) := by decide +kernel
theorem dX4_lay_117 : decode cX4_lay 117 = .ok (.invokevirtual 93, 3) := by decide +kernel
theorem dX4_lay_120 : decode cX4_lay 120 = .ok (.iconst 1, 1) := by decide +kernel
theorem dX4_lay_121 : decode cX4_lay 121 = .ok (.ireturn, 1) := by decide +kernel
set_option maxRecDepth 20000 in
theorem ggX4_takeTop_X4_weightOf : GoodIn wsX4_takeTop wsX4_weightOf := goodIn_r _ [6, 7, 8, 9, 10, 11, 17, 18, 19, 20, 21, 22, 23, 24, 25, 26] (by decide +kernel) (by decide +kernel)
set_option maxRecDepth 20000 in
theorem gX4_takeTop_X4_weightOf : GoodIn wsX4_takeTop (wsV RX4 90 RX4 yX4_weightOf wsX4_weightOf) := goodIn_app (goodIn_of _ (by decide +kernel)) ggX4_takeTop_X4_weightOf
set_option maxRecDepth 20000 in
theorem ggX4_takeTop_X4_bear : GoodIn wsX4_takeTop wsX4_bear := goodIn_r _ [15, 1, 16, 17, 18, 19, 20, 21, 22, 23, 24, 25, 26] (by decide +kernel) (by decide +kernel)
set_option maxRecDepth 20000 in
theorem gX4_takeTop_X4_bear : GoodIn wsX4_takeTop (wsV RX4 93 RX4 yX4_bear wsX4_bear) := goodIn_app (goodIn_of _ (by decide +kernel)) ggX4_takeTop_X4_bear
theorem dX4_takeTop_0 : decode cX4_takeTop 0 = .ok (.aload_n 0, 1) := by decide +kernel
theorem dX4_takeTop_1 : decode cX4_takeTop 1 = .ok (.getfield 30, 3) := by decide +kernel
theorem dX4_takeTop_4 : decode cX4_takeTop 4 = .ok (.ifCond .ne 5, 3) := by decide +kernel
theorem dX4_takeTop_7 : decode cX4_takeTop 7 = .ok (.iconst 0, 1) := by decide +kernel
theorem dX4_takeTop_8 : decode cX4_takeTop 8 = .ok (.ireturn, 1) := by decide +kernel
theorem dX4_takeTop_9 : decode cX4_takeTop 9 = .ok (.aload_n 0, 1) := by decide +kernel
theorem dX4_takeTop_10 : decode cX4_takeTop 10 = .ok (.aload_n 0, 1) := by decide +kernel
theorem dX4_takeTop_11 : decode cX4_takeTop 11 = .ok (.aload_n 0, 1) := by decide +kernel
theorem dX4_takeTop_12 : decode cX4_takeTop 12 = .ok (.getfield 30, 3) := by decide +kernel
theorem dX4_takeTop_15 : decode cX4_takeTop 15 = .ok (.iconst 1, 1) := by decide +kernel
theorem dX4_takeTop_16 : decode cX4_takeTop 16 = .ok (.isub, 1) := by decide +kernel
theorem dX4_takeTop_17 : decode cX4_takeTop 17 = .ok (.invokevirtual 90, 3) := by decide +kernel
theorem dX4_takeTop_20 : decode cX4_takeTop 20 = .ok (.ineg, 1) := by decide +kernel
theorem dX4_takeTop_21 : decode cX4_takeTop 21 = .ok (.invokevirtual 93, 3) := by decide +kernel
theorem dX4_takeTop_24 : decode cX4_takeTop 24 = .ok (.aload_n 0, 1) := by decide +kernel
theorem dX4_takeTop_25 : decode cX4_takeTop 25 = .ok (.dup, 1) := by decide +kernel
theorem dX4_takeTop_26 : decode cX4_takeTop 26 = .ok (.getfield 30, 3) := by decide +kernel
theorem dX4_takeTop_29 : decode cX4_takeTop 29 = .ok (.iconst 1, 1) := by decide +kernel
theorem dX4_takeTop_30 : decode cX4_takeTop 30 = .ok (.isub, 1) := by decide +kernel
theorem dX4_takeTop_31 : decode cX4_takeTop 31 = .ok (.putfield 30, 3) := by decide +kernel
theorem dX4_takeTop_34 : decode cX4_takeTop 34 = .ok (.iconst 1, 1) := by decide +kernel
theorem dX4_takeTop_35 : decode cX4_takeTop 35 = .ok (.ireturn, 1) := by decide +kernel
theorem dX4_bear_0 : decode cX4_bear 0 = .ok (.iconst 0, 1) := by decide +kernel
theorem dX4_bear_1 : decode cX4_bear 1 = .ok (.istore_n 2, 1) := by decide +kernel
theorem dX4_bear_2 : decode cX4_bear 2 = .ok (.iload_n 2, 1) := by decide +kernel
theorem dX4_bear_3 : decode cX4_bear 3 = .ok (.aload_n 0, 1) := by decide +kernel
theorem dX4_bear_4 : decode cX4_bear 4 = .ok (.getfield 30, 3) := by decide +kernel
theorem dX4_bear_7 : decode cX4_bear 7 = .ok (.if_icmp .ge 19, 3) := by decide +kernel
theorem dX4_bear_10 : decode cX4_bear 10 = .ok (.aload_n 0, 1) := by decide +kernel
theorem dX4_bear_11 : decode cX4_bear 11 = .ok (.getfield 27, 3) := by decide +kernel
theorem dX4_bear_14 : decode cX4_bear 14 = .ok (.iload_n 2, 1) := by decide +kernel
theorem dX4_bear_15 : decode cX4_bear 15 = .ok (.dup2, 1) := by decide +kernel
theorem dX4_bear_16 : decode cX4_bear 16 = .ok (.iaload, 1) := by decide +kernel
theorem dX4_bear_17 : decode cX4_bear 17 = .ok (.iload_n 1, 1) := by decide +kernel
theorem dX4_bear_18 : decode cX4_bear 18 = .ok (.iadd, 1) := by decide +kernel
theorem dX4_bear_19 : decode cX4_bear 19 = .ok (.iastore, 1) := by decide +kernel
theorem dX4_bear_20 : decode cX4_bear 20 = .ok (.iinc 2 1, 3) := by decide +kernel
theorem dX4_bear_23 : decode cX4_bear 23 = .ok (.goto (-21), 3) := by decide +kernel
theorem dX4_bear_26 : decode cX4_bear 26 = .ok (.return_, 1) := by decide +kernel
theorem dX4_leanMore_0 : decode cX4_leanMore 0 = .ok (.iconst 0, 1) := by decide +kernel
theorem dX4_leanMore_1 : decode cX4_leanMore 1 = .ok (.istore_n 2, 1) := by decide +kernel
theorem dX4_leanMore_2 : decode cX4_leanMore 2 = .ok (.iload_n 2, 1) := by decide +kernel
theorem dX4_leanMore_3 : decode cX4_leanMore 3 = .ok (.aload_n 0, 1) := by decide +kernel
theorem dX4_leanMore_4 : decode cX4_leanMore 4 = .ok (.getfield 30, 3) := by decide +kernel
theorem dX4_leanMore_7 : decode cX4_leanMore 7 = .ok (.if_icmp .ge 32, 3) := by decide +kernel
theorem dX4_leanMore_10 : decode cX4_leanMore 10 = .ok (.aload_n 0, 1) := by decide +kernel
theorem dX4_leanMore_11 : decode cX4_leanMore 11 = .ok (.getfield 21, 3) := by decide +kernel
theorem dX4_leanMore_14 : decode cX4_leanMore 14 = .ok (.iload_n 2, 1) := by decide +kernel
theorem dX4_leanMore_15 : decode cX4_leanMore 15 = .ok (.bipush (-5), 2) := by decide +kernel
theorem dX4_leanMore_17 : decode cX4_leanMore 17 = .ok (.iconst 5, 1) := by decide +kernel
theorem dX4_leanMore_18 : decode cX4_leanMore 18 = .ok (.aload_n 0, 1) := by decide +kernel
theorem dX4_leanMore_19 : decode cX4_leanMore 19 = .ok (.getfield 21, 3) := by decide +kernel
theorem dX4_leanMore_22 : decode cX4_leanMore 22 = .ok (.iload_n 2, 1) := by decide +kernel
theorem dX4_leanMore_23 : decode cX4_leanMore 23 = .ok (.iaload, 1) := by decide +kernel
theorem dX4_leanMore_24 : decode cX4_leanMore 24 = .ok (.iload_n 1, 1) := by decide +kernel
theorem dX4_leanMore_25 : decode cX4_leanMore 25 = .ok (.iadd, 1) := by decide +kernel
theorem dX4_leanMore_26 : decode cX4_leanMore 26 = .ok (.invokestatic 97, 3) := by decide +kernel
theorem dX4_leanMore_29 : decode cX4_leanMore 29 = .ok (.invokestatic 100, 3) := by decide +kernel
theorem dX4_leanMore_32 : decode cX4_leanMore 32 = .ok (.iastore, 1) := by decide +kernel
theorem dX4_leanMore_33 : decode cX4_leanMore 33 = .ok (.iinc 2 1, 3) := by decide +kernel
theorem dX4_leanMore_36 : decode cX4_leanMore 36 = .ok (.goto (-34), 3) := by decide +kernel
theorem dX4_leanMore_39 : decode cX4_leanMore 39 = .ok (.return_, 1) := by decide +kernel
theorem dX4_layBadly_0 : decode cX4_layBadly 0 = .ok (.iconst 0, 1) := by decide +kernel
theorem dX4_layBadly_1 : decode cX4_layBadly 1 = .ok (.istore_n 2, 1) := by decide +kernel
theorem dX4_layBadly_2 : decode cX4_layBadly 2 = .ok (.iload_n 2, 1) := by decide +kernel
theorem dX4_layBadly_3 : decode cX4_layBadly 3 = .ok (.aload_n 0, 1) := by decide +kernel
theorem dX4_layBadly_4 : decode cX4_layBadly 4 = .ok (.getfield 30, 3) := by decide +kernel
theorem dX4_layBadly_7 : decode cX4_layBadly 7 = .ok (.if_icmp .ge 41, 3) := by decide +kernel
theorem dX4_layBadly_10 : decode cX4_layBadly 10 = .ok (.aload_n 0, 1) := by decide +kernel
theorem dX4_layBadly_11 : decode cX4_layBadly 11 = .ok (.getfield 15, 3) := by decide +kernel
theorem dX4_layBadly_14 : decode cX4_layBadly 14 = .ok (.iload_n 2, 1) := by decide +kernel
theorem dX4_layBadly_15 : decode cX4_layBadly 15 = .ok (.iaload, 1) := by decide +kernel
theorem dX4_layBadly_16 : decode cX4_layBadly 16 = .ok (.iload_n 1, 1) := by decide +kernel
theorem dX4_layBadly_17 : decode cX4_layBadly 17 = .ok (.imul, 1) := by decide +kernel
theorem dX4_layBadly_18 : decode cX4_layBadly 18 = .ok (.bipush 9, 2) := by decide +kernel
theorem dX4_layBadly_20 : decode cX4_layBadly 20 = .ok (.idiv, 1) := by decide +kernel
theorem dX4_layBadly_21 : decode cX4_layBadly 21 = .ok (.istore_n 3, 1) := by decide +kernel
theorem dX4_layBadly_22 : decode cX4_layBadly 22 = .ok (.aload_n 0, 1) := by decide +kernel
theorem dX4_layBadly_23 : decode cX4_layBadly 23 = .ok (.getfield 24, 3) := by decide +kernel
theorem dX4_layBadly_26 : decode cX4_layBadly 26 = .ok (.iload_n 2, 1) := by decide +kernel
theorem dX4_layBadly_27 : decode cX4_layBadly 27 = .ok (.iconst 0, 1) := by decide +kernel
theorem dX4_layBadly_28 : decode cX4_layBadly 28 = .ok (.aload_n 0, 1) := by decide +kernel
theorem dX4_layBadly_29 : decode cX4_layBadly 29 = .ok (.getfield 24, 3) := by decide +kernel
theorem dX4_layBadly_32 : decode cX4_layBadly 32 = .ok (.iload_n 2, 1) := by decide +kernel
theorem dX4_layBadly_33 : decode cX4_layBadly 33 = .ok (.iaload, 1) := by decide +kernel
theorem dX4_layBadly_34 : decode cX4_layBadly 34 = .ok (.iconst 4, 1) := by decide +kernel
theorem dX4_layBadly_35 : decode cX4_layBadly 35 = .ok (.iload_n 3, 1) := by decide +kernel
theorem dX4_layBadly_36 : decode cX4_layBadly 36 = .ok (.imul, 1) := by decide +kernel
theorem dX4_layBadly_37 : decode cX4_layBadly 37 = .ok (.isub, 1) := by decide +kernel
theorem dX4_layBadly_38 : decode cX4_layBadly 38 = .ok (.invokestatic 100, 3) := by decide +kernel
theorem dX4_layBadly_41 : decode cX4_layBadly 41 = .ok (.iastore, 1) := by decide +kernel
theorem dX4_layBadly_42 : decode cX4_layBadly 42 = .ok (.iinc 2 1, 3) := by decide +kernel
theorem dX4_layBadly_45 : decode cX4_layBadly 45 = .ok (.goto (-43), 3) := by decide +kernel
theorem dX4_layBadly_48 : decode cX4_layBadly 48 = .ok (.return_, 1) := by decide +kernel
set_option maxRecDepth 20000 in
theorem ggX4_layByLot_X4_nextSeed : GoodIn wsX4_layByLot wsX4_nextSeed := goodIn_r _ [7, 8, 9] (by decide +kernel) (by decide +kernel)
set_option maxRecDepth 20000 in
theorem gX4_layByLot_X4_nextSeed : GoodIn wsX4_layByLot (va_wsS RX4 103 yX4_nextSeed wsX4_nextSeed) := goodIn_app (goodIn_of _ (by decide +kernel)) ggX4_layByLot_X4_nextSeed
set_option maxRecDepth 20000 in
theorem ggX4_layByLot_X4_draw : GoodIn wsX4_layByLot wsX4_draw := goodIn_r _ [12, 13] (by decide +kernel) (by decide +kernel)
set_option maxRecDepth 20000 in
theorem gX4_layByLot_X4_draw : GoodIn wsX4_layByLot (va_wsS RX4 106 yX4_draw wsX4_draw) := goodIn_app (goodIn_of _ (by decide +kernel)) ggX4_layByLot_X4_draw
theorem dX4_layByLot_0 : decode cX4_layByLot 0 = .ok (.iload_n 1, 1) := by decide +kernel
theorem dX4_layByLot_1 : decode cX4_layByLot 1 = .ok (.istore_n 2, 1) := by decide +kernel
theorem dX4_layByLot_2 : decode cX4_layByLot 2 = .ok (.iconst 0, 1) := by decide +kernel
theorem dX4_layByLot_3 : decode cX4_layByLot 3 = .ok (.istore_n 3, 1) := by decide +kernel
theorem dX4_layByLot_4 : decode cX4_layByLot 4 = .ok (.iload_n 3, 1) := by decide +kernel
theorem dX4_layByLot_5 : decode cX4_layByLot 5 = .ok (.aload_n 0, 1) := by decide +kernel
theorem dX4_layByLot_6 : decode cX4_layByLot 6 = .ok (.getfield 30, 3) := by decide +kernel
theorem dX4_layByLot_9 : decode cX4_layByLot 9 = .ok (.if_icmp .ge 45, 3) := by decide +kernel
theorem dX4_layByLot_12 : decode cX4_layByLot 12 = .ok (.iload_n 2, 1) := by decide +kernel
theorem dX4_layByLot_13 : decode cX4_layByLot 13 = .ok (.invokestatic 103, 3) := by decide +kernel
theorem dX4_layByLot_16 : decode cX4_layByLot 16 = .ok (.istore_n 2, 1) := by decide +kernel
theorem dX4_layByLot_17 : decode cX4_layByLot 17 = .ok (.aload_n 0, 1) := by decide +kernel
theorem dX4_layByLot_18 : decode cX4_layByLot 18 = .ok (.getfield 18, 3) := by decide +kernel
theorem dX4_layByLot_21 : decode cX4_layByLot 21 = .ok (.iload_n 3, 1) := by decide +kernel
theorem dX4_layByLot_22 : decode cX4_layByLot 22 = .ok (.iload_n 2, 1) := by decide +kernel
theorem dX4_layByLot_23 : decode cX4_layByLot 23 = .ok (.bipush 10, 2) := by decide +kernel
theorem dX4_layByLot_25 : decode cX4_layByLot 25 = .ok (.invokestatic 106, 3) := by decide +kernel
theorem dX4_layByLot_28 : decode cX4_layByLot 28 = .ok (.iastore, 1) := by decide +kernel
theorem dX4_layByLot_29 : decode cX4_layByLot 29 = .ok (.iload_n 2, 1) := by decide +kernel
theorem dX4_layByLot_30 : decode cX4_layByLot 30 = .ok (.invokestatic 103, 3) := by decide +kernel
theorem dX4_layByLot_33 : decode cX4_layByLot 33 = .ok (.istore_n 2, 1) := by decide +kernel
theorem dX4_layByLot_34 : decode cX4_layByLot 34 = .ok (.aload_n 0, 1) := by decide +kernel
theorem dX4_layByLot_35 : decode cX4_layByLot 35 = .ok (.getfield 21, 3) := by decide +kernel
theorem dX4_layByLot_38 : decode cX4_layByLot 38 = .ok (.iload_n 3, 1) := by decide +kernel
theorem dX4_layByLot_39 : decode cX4_layByLot 39 = .ok (.iload_n 2, 1) := by decide +kernel
theorem dX4_layByLot_40 : decode cX4_layByLot 40 = .ok (.bipush 11, 2) := by decide +kernel
theorem dX4_layByLot_42 : decode cX4_layByLot 42 = .ok (.invokestatic 106, 3) := by decide +kernel
theorem dX4_layByLot_45 : decode cX4_layByLot 45 = .ok (.iconst 5, 1) := by decide +kernel
theorem dX4_layByLot_46 : decode cX4_layByLot 46 = .ok (.isub, 1) := by decide +kernel
theorem dX4_layByLot_47 : decode cX4_layByLot 47 = .ok (.iastore, 1) := by decide +kernel
theorem dX4_layByLot_48 : decode cX4_layByLot 48 = .ok (.iinc 3 1, 3) := by decide +kernel
theorem dX4_layByLot_51 : decode cX4_layByLot 51 = .ok (.goto (-47), 3) := by decide +kernel
theorem dX4_layByLot_54 : decode cX4_layByLot 54 = .ok (.iload_n 2, 1) := by decide +kernel
theorem dX4_layByLot_55 : decode cX4_layByLot 55 = .ok (.ireturn, 1) := by decide +kernel
theorem dX4_nextSeed_0 : decode cX4_nextSeed 0 = .ok (.iload_n 0, 1) := by decide +kernel
theorem dX4_nextSeed_1 : decode cX4_nextSeed 1 = .ok (.ldc 109, 2) := by decide +kernel
theorem dX4_nextSeed_3 : decode cX4_nextSeed 3 = .ok (.imul, 1) := by decide +kernel
theorem dX4_nextSeed_4 : decode cX4_nextSeed 4 = .ok (.ldc 110, 2) := by decide +kernel
theorem dX4_nextSeed_6 : decode cX4_nextSeed 6 = .ok (.iadd, 1) := by decide +kernel
theorem dX4_nextSeed_7 : decode cX4_nextSeed 7 = .ok (.ireturn, 1) := by decide +kernel
theorem dX4_draw_0 : decode cX4_draw 0 = .ok (.iload_n 1, 1) := by decide +kernel
theorem dX4_draw_1 : decode cX4_draw 1 = .ok (.iconst 1, 1) := by decide +kernel
theorem dX4_draw_2 : decode cX4_draw 2 = .ok (.if_icmp .ge 7, 3) := by decide +kernel
theorem dX4_draw_5 : decode cX4_draw 5 = .ok (.iconst 0, 1) := by decide +kernel
theorem dX4_draw_6 : decode cX4_draw 6 = .ok (.goto 13, 3) := by decide +kernel
theorem dX4_draw_9 : decode cX4_draw 9 = .ok (.iload_n 0, 1) := by decide +kernel
theorem dX4_draw_10 : decode cX4_draw 10 = .ok (.ldc 111, 2) := by decide +kernel
theorem dX4_draw_12 : decode cX4_draw 12 = .ok (.iand, 1) := by decide +kernel
theorem dX4_draw_13 : decode cX4_draw 13 = .ok (.sipush 256, 3) := by decide +kernel
theorem dX4_draw_16 : decode cX4_draw 16 = .ok (.idiv, 1) := by decide +kernel
theorem dX4_draw_17 : decode cX4_draw 17 = .ok (.iload_n 1, 1) := by decide +kernel
theorem dX4_draw_18 : decode cX4_draw 18 = .ok (.irem, 1) := by decide +kernel
theorem dX4_draw_19 : decode cX4_draw 19 = .ok (.ireturn, 1) := by decide +kernel
set_option maxRecDepth 20000 in
theorem ggX4_weightOf_X0_weight : GoodIn wsX4_weightOf wsX0_weight := goodIn_r _ [5] (by decide +kernel) (by decide +kernel)
set_option maxRecDepth 20000 in
theorem gX4_weightOf_X0_weight_n112 : GoodIn wsX4_weightOf (wsX0_weight) := ggX4_weightOf_X0_weight
theorem dX4_weightOf_0 : decode cX4_weightOf 0 = .ok (.aload_n 0, 1) := by decide +kernel
theorem dX4_weightOf_1 : decode cX4_weightOf 1 = .ok (.getfield 11, 3) := by decide +kernel
theorem dX4_weightOf_4 : decode cX4_weightOf 4 = .ok (.iload_n 1, 1) := by decide +kernel
theorem dX4_weightOf_5 : decode cX4_weightOf 5 = .ok (.iaload, 1) := by decide +kernel
theorem dX4_weightOf_6 : decode cX4_weightOf 6 = .ok (.aload_n 0, 1) := by decide +kernel
theorem dX4_weightOf_7 : decode cX4_weightOf 7 = .ok (.getfield 15, 3) := by decide +kernel
theorem dX4_weightOf_10 : decode cX4_weightOf 10 = .ok (.iload_n 1, 1) := by decide +kernel
theorem dX4_weightOf_11 : decode cX4_weightOf 11 = .ok (.iaload, 1) := by decide +kernel
theorem dX4_weightOf_12 : decode cX4_weightOf 12 = .ok (.invokestatic 112, 3) := by decide +kernel
theorem dX4_weightOf_15 : decode cX4_weightOf 15 = .ok (.ireturn, 1) := by decide +kernel
theorem dX4_strengthOf_0 : decode cX4_strengthOf 0 = .ok (.aload_n 0, 1) := by decide +kernel
theorem dX4_strengthOf_1 : decode cX4_strengthOf 1 = .ok (.getfield 24, 3) := by decide +kernel
theorem dX4_strengthOf_4 : decode cX4_strengthOf 4 = .ok (.iload_n 1, 1) := by decide +kernel
theorem dX4_strengthOf_5 : decode cX4_strengthOf 5 = .ok (.iaload, 1) := by decide +kernel
theorem dX4_strengthOf_6 : decode cX4_strengthOf 6 = .ok (.bipush 15, 2) := by decide +kernel
theorem dX4_strengthOf_8 : decode cX4_strengthOf 8 = .ok (.aload_n 0, 1) := by decide +kernel
theorem dX4_strengthOf_9 : decode cX4_strengthOf 9 = .ok (.getfield 42, 3) := by decide +kernel
theorem dX4_strengthOf_12 : decode cX4_strengthOf 12 = .ok (.iconst 0, 1) := by decide +kernel
theorem dX4_strengthOf_13 : decode cX4_strengthOf 13 = .ok (.iaload, 1) := by decide +kernel
theorem dX4_strengthOf_14 : decode cX4_strengthOf 14 = .ok (.imul, 1) := by decide +kernel
theorem dX4_strengthOf_15 : decode cX4_strengthOf 15 = .ok (.iadd, 1) := by decide +kernel
theorem dX4_strengthOf_16 : decode cX4_strengthOf 16 = .ok (.ireturn, 1) := by decide +kernel
set_option maxRecDepth 20000 in
theorem ggX4_height_X0_thickness : GoodIn wsX4_height wsX0_thickness := goodIn_r _ [5] (by decide +kernel) (by decide +kernel)
set_option maxRecDepth 20000 in
theorem gX4_height_X0_thickness_n115 : GoodIn wsX4_height (wsX0_thickness) := ggX4_height_X0_thickness
theorem dX4_height_0 : decode cX4_height 0 = .ok (.iconst 0, 1) := by decide +kernel
theorem dX4_height_1 : decode cX4_height 1 = .ok (.istore_n 1, 1) := by decide +kernel
theorem dX4_height_2 : decode cX4_height 2 = .ok (.iconst 0, 1) := by decide +kernel
theorem dX4_height_3 : decode cX4_height 3 = .ok (.istore_n 2, 1) := by decide +kernel
theorem dX4_height_4 : decode cX4_height 4 = .ok (.iload_n 2, 1) := by decide +kernel
theorem dX4_height_5 : decode cX4_height 5 = .ok (.aload_n 0, 1) := by decide +kernel
theorem dX4_height_6 : decode cX4_height 6 = .ok (.getfield 30, 3) := by decide +kernel
theorem dX4_height_9 : decode cX4_height 9 = .ok (.if_icmp .ge 21, 3) := by decide +kernel
theorem dX4_height_12 : decode cX4_height 12 = .ok (.iload_n 1, 1) := by decide +kernel
theorem dX4_height_13 : decode cX4_height 13 = .ok (.aload_n 0, 1) := by decide +kernel
theorem dX4_height_14 : decode cX4_height 14 = .ok (.getfield 11, 3) := by decide +kernel
theorem dX4_height_17 : decode cX4_height 17 = .ok (.iload_n 2, 1) := by decide +kernel
theorem dX4_height_18 : decode cX4_height 18 = .ok (.iaload, 1) := by decide +kernel
theorem dX4_height_19 : decode cX4_height 19 = .ok (.invokestatic 115, 3) := by decide +kernel
theorem dX4_height_22 : decode cX4_height 22 = .ok (.iadd, 1) := by decide +kernel
theorem dX4_height_23 : decode cX4_height 23 = .ok (.istore_n 1, 1) := by decide +kernel
theorem dX4_height_24 : decode cX4_height 24 = .ok (.iinc 2 1, 3) := by decide +kernel
theorem dX4_height_27 : decode cX4_height 27 = .ok (.goto (-23), 3) := by decide +kernel
theorem dX4_height_30 : decode cX4_height 30 = .ok (.iload_n 1, 1) := by decide +kernel
theorem dX4_height_31 : decode cX4_height 31 = .ok (.ireturn, 1) := by decide +kernel
set_option maxRecDepth 20000 in
theorem ggX4_width_X4_layerFarthestOut : GoodIn wsX4_width wsX4_layerFarthestOut := goodIn_r _ [6, 7, 1, 8, 9, 10, 11, 12, 13, 14, 15, 16, 17] (by decide +kernel) (by decide +kernel)
set_option maxRecDepth 20000 in
theorem gX4_width_X4_layerFarthestOut : GoodIn wsX4_width (wsV RX4 118 RX4 yX4_layerFarthestOut wsX4_layerFarthestOut) := goodIn_app (goodIn_of _ (by decide +kernel)) ggX4_width_X4_layerFarthestOut
theorem dX4_width_0 : decode cX4_width 0 = .ok (.aload_n 0, 1) := by decide +kernel
theorem dX4_width_1 : decode cX4_width 1 = .ok (.invokevirtual 118, 3) := by decide +kernel
theorem dX4_width_4 : decode cX4_width 4 = .ok (.istore_n 1, 1) := by decide +kernel
theorem dX4_width_5 : decode cX4_width 5 = .ok (.iload_n 1, 1) := by decide +kernel
theorem dX4_width_6 : decode cX4_width 6 = .ok (.ifCond .ge 8, 3) := by decide +kernel
theorem dX4_width_9 : decode cX4_width 9 = .ok (.bipush 96, 2) := by decide +kernel
theorem dX4_width_11 : decode cX4_width 11 = .ok (.goto 14, 3) := by decide +kernel
theorem dX4_width_14 : decode cX4_width 14 = .ok (.bipush 96, 2) := by decide +kernel
theorem dX4_width_16 : decode cX4_width 16 = .ok (.iconst 2, 1) := by decide +kernel
theorem dX4_width_17 : decode cX4_width 17 = .ok (.aload_n 0, 1) := by decide +kernel
theorem dX4_width_18 : decode cX4_width 18 = .ok (.getfield 18, 3) := by decide +kernel
theorem dX4_width_21 : decode cX4_width 21 = .ok (.iload_n 1, 1) := by decide +kernel
theorem dX4_width_22 : decode cX4_width 22 = .ok (.iaload, 1) := by decide +kernel
theorem dX4_width_23 : decode cX4_width 23 = .ok (.imul, 1) := by decide +kernel
theorem dX4_width_24 : decode cX4_width 24 = .ok (.iadd, 1) := by decide +kernel
theorem dX4_width_25 : decode cX4_width 25 = .ok (.ireturn, 1) := by decide +kernel
theorem dX4_layerFarthestOut_0 : decode cX4_layerFarthestOut 0 = .ok (.iconst (-1), 1) := by decide +kernel
theorem dX4_layerFarthestOut_1 : decode cX4_layerFarthestOut 1 = .ok (.istore_n 1, 1) := by decide +kernel
theorem dX4_layerFarthestOut_2 : decode cX4_layerFarthestOut 2 = .ok (.iconst 0, 1) := by decide +kernel
theorem dX4_layerFarthestOut_3 : decode cX4_layerFarthestOut 3 = .ok (.istore_n 2, 1) := by decide +kernel
theorem dX4_layerFarthestOut_4 : decode cX4_layerFarthestOut 4 = .ok (.iload_n 2, 1) := by decide +kernel
theorem dX4_layerFarthestOut_5 : decode cX4_layerFarthestOut 5 = .ok (.aload_n 0, 1) := by decide +kernel
theorem dX4_layerFarthestOut_6 : decode cX4_layerFarthestOut 6 = .ok (.getfield 30, 3) := by decide +kernel
theorem dX4_layerFarthestOut_9 : decode cX4_layerFarthestOut 9 = .ok (.if_icmp .ge 30, 3) := by decide +kernel
theorem dX4_layerFarthestOut_12 : decode cX4_layerFarthestOut 12 = .ok (.iload_n 1, 1) := by decide +kernel
theorem dX4_layerFarthestOut_13 : decode cX4_layerFarthestOut 13 = .ok (.ifCond .lt 18, 3) := by decide +kernel
theorem dX4_layerFarthestOut_16 : decode cX4_layerFarthestOut 16 = .ok (.aload_n 0, 1) := by decide +kernel
theorem dX4_layerFarthestOut_17 : decode cX4_layerFarthestOut 17 = .ok (.getfield 18, 3) := by decide +kernel
theorem dX4_layerFarthestOut_20 : decode cX4_layerFarthestOut 20 = .ok (.iload_n 2, 1) := by decide +kernel
theorem dX4_layerFarthestOut_21 : decode cX4_layerFarthestOut 21 = .ok (.iaload, 1) := by decide +kernel
theorem dX4_layerFarthestOut_22 : decode cX4_layerFarthestOut 22 = .ok (.aload_n 0, 1) := by decide +kernel
theorem dX4_layerFarthestOut_23 : decode cX4_layerFarthestOut 23 = .ok (.getfield 18, 3) := by decide +kernel
theorem dX4_layerFarthestOut_26 : decode cX4_layerFarthestOut 26 = .ok (.iload_n 1, 1) := by decide +kernel
theorem dX4_layerFarthestOut_27 : decode cX4_layerFarthestOut 27 = .ok (.iaload, 1) := by decide +kernel
theorem dX4_layerFarthestOut_28 : decode cX4_layerFarthestOut 28 = .ok (.if_icmp .le 5, 3) := by decide +kernel
theorem dX4_layerFarthestOut_31 : decode cX4_layerFarthestOut 31 = .ok (.iload_n 2, 1) := by decide +kernel
theorem dX4_layerFarthestOut_32 : decode cX4_layerFarthestOut 32 = .ok (.istore_n 1, 1) := by decide +kernel
theorem dX4_layerFarthestOut_33 : decode cX4_layerFarthestOut 33 = .ok (.iinc 2 1, 3) := by decide +kernel
theorem dX4_layerFarthestOut_36 : decode cX4_layerFarthestOut 36 = .ok (.goto (-32), 3) := by decide +kernel
theorem dX4_layerFarthestOut_39 : decode cX4_layerFarthestOut 39 = .ok (.iload_n 1, 1) := by decide +kernel
theorem dX4_layerFarthestOut_40 : decode cX4_layerFarthestOut 40 = .ok (.ireturn, 1) := by decide +kernel
theorem dX4_allWeight_0 : decode cX4_allWeight 0 = .ok (.aload_n 0, 1) := by decide +kernel
theorem dX4_allWeight_1 : decode cX4_allWeight 1 = .ok (.getfield 30, 3) := by decide +kernel
theorem dX4_allWeight_4 : decode cX4_allWeight 4 = .ok (.ifCond .ne 7, 3) := by decide +kernel
theorem dX4_allWeight_7 : decode cX4_allWeight 7 = .ok (.iconst 0, 1) := by decide +kernel
theorem dX4_allWeight_8 : decode cX4_allWeight 8 = .ok (.goto 9, 3) := by decide +kernel
theorem dX4_allWeight_11 : decode cX4_allWeight 11 = .ok (.aload_n 0, 1) := by decide +kernel
theorem dX4_allWeight_12 : decode cX4_allWeight 12 = .ok (.getfield 27, 3) := by decide +kernel
theorem dX4_allWeight_15 : decode cX4_allWeight 15 = .ok (.iconst 0, 1) := by decide +kernel
theorem dX4_allWeight_16 : decode cX4_allWeight 16 = .ok (.iaload, 1) := by decide +kernel
theorem dX4_allWeight_17 : decode cX4_allWeight 17 = .ok (.ireturn, 1) := by decide +kernel
theorem dX4_allSheaves_0 : decode cX4_allSheaves 0 = .ok (.iconst 0, 1) := by decide +kernel
theorem dX4_allSheaves_1 : decode cX4_allSheaves 1 = .ok (.istore_n 1, 1) := by decide +kernel
theorem dX4_allSheaves_2 : decode cX4_allSheaves 2 = .ok (.iconst 0, 1) := by decide +kernel
theorem dX4_allSheaves_3 : decode cX4_allSheaves 3 = .ok (.istore_n 2, 1) := by decide +kernel
theorem dX4_allSheaves_4 : decode cX4_allSheaves 4 = .ok (.iload_n 2, 1) := by decide +kernel
theorem dX4_allSheaves_5 : decode cX4_allSheaves 5 = .ok (.aload_n 0, 1) := by decide +kernel
theorem dX4_allSheaves_6 : decode cX4_allSheaves 6 = .ok (.getfield 30, 3) := by decide +kernel
theorem dX4_allSheaves_9 : decode cX4_allSheaves 9 = .ok (.if_icmp .ge 18, 3) := by decide +kernel
theorem dX4_allSheaves_12 : decode cX4_allSheaves 12 = .ok (.iload_n 1, 1) := by decide +kernel
theorem dX4_allSheaves_13 : decode cX4_allSheaves 13 = .ok (.aload_n 0, 1) := by decide +kernel
theorem dX4_allSheaves_14 : decode cX4_allSheaves 14 = .ok (.getfield 15, 3) := by decide +kernel
theorem dX4_allSheaves_17 : decode cX4_allSheaves 17 = .ok (.iload_n 2, 1) := by decide +kernel
theorem dX4_allSheaves_18 : decode cX4_allSheaves 18 = .ok (.iaload, 1) := by decide +kernel
theorem dX4_allSheaves_19 : decode cX4_allSheaves 19 = .ok (.iadd, 1) := by decide +kernel
theorem dX4_allSheaves_20 : decode cX4_allSheaves 20 = .ok (.istore_n 1, 1) := by decide +kernel
theorem dX4_allSheaves_21 : decode cX4_allSheaves 21 = .ok (.iinc 2 1, 3) := by decide +kernel
theorem dX4_allSheaves_24 : decode cX4_allSheaves 24 = .ok (.goto (-20), 3) := by decide +kernel
theorem dX4_allSheaves_27 : decode cX4_allSheaves 27 = .ok (.iload_n 1, 1) := by decide +kernel
theorem dX4_allSheaves_28 : decode cX4_allSheaves 28 = .ok (.ireturn, 1) := by decide +kernel
theorem dX4_shiftOf_0 : decode cX4_shiftOf 0 = .ok (.aload_n 0, 1) := by decide +kernel
theorem dX4_shiftOf_1 : decode cX4_shiftOf 1 = .ok (.getfield 48, 3) := by decide +kernel
theorem dX4_shiftOf_4 : decode cX4_shiftOf 4 = .ok (.iload_n 1, 1) := by decide +kernel
theorem dX4_shiftOf_5 : decode cX4_shiftOf 5 = .ok (.aaload, 1) := by decide +kernel
theorem dX4_shiftOf_6 : decode cX4_shiftOf 6 = .ok (.getfield 122, 3) := by decide +kernel
theorem dX4_shiftOf_9 : decode cX4_shiftOf 9 = .ok (.iload_n 2, 1) := by decide +kernel
theorem dX4_shiftOf_10 : decode cX4_shiftOf 10 = .ok (.iaload, 1) := by decide +kernel
theorem dX4_shiftOf_11 : decode cX4_shiftOf 11 = .ok (.istore 4, 2) := by decide +kernel
theorem dX4_shiftOf_13 : decode cX4_shiftOf 13 = .ok (.aload_n 0, 1) := by decide +kernel
theorem dX4_shiftOf_14 : decode cX4_shiftOf 14 = .ok (.getfield 27, 3) := by decide +kernel
theorem dX4_shiftOf_17 : decode cX4_shiftOf 17 = .ok (.iload_n 3, 1) := by decide +kernel
theorem dX4_shiftOf_18 : decode cX4_shiftOf 18 = .ok (.iaload, 1) := by decide +kernel
theorem dX4_shiftOf_19 : decode cX4_shiftOf 19 = .ok (.istore 5, 2) := by decide +kernel
theorem dX4_shiftOf_21 : decode cX4_shiftOf 21 = .ok (.aload_n 0, 1) := by decide +kernel
theorem dX4_shiftOf_22 : decode cX4_shiftOf 22 = .ok (.getfield 48, 3) := by decide +kernel
theorem dX4_shiftOf_25 : decode cX4_shiftOf 25 = .ok (.iload_n 1, 1) := by decide +kernel
theorem dX4_shiftOf_26 : decode cX4_shiftOf 26 = .ok (.aaload, 1) := by decide +kernel
theorem dX4_shiftOf_27 : decode cX4_shiftOf 27 = .ok (.getfield 125, 3) := by decide +kernel
theorem dX4_shiftOf_30 : decode cX4_shiftOf 30 = .ok (.iload_n 2, 1) := by decide +kernel
theorem dX4_shiftOf_31 : decode cX4_shiftOf 31 = .ok (.iaload, 1) := by decide +kernel
theorem dX4_shiftOf_32 : decode cX4_shiftOf 32 = .ok (.tableswitch 94 0 3 #[32, 54, 63, 78], 32) := by decide +kernel
theorem dX4_shiftOf_64 : decode cX4_shiftOf 64 = .ok (.iload 5, 2) := by decide +kernel
theorem dX4_shiftOf_66 : decode cX4_shiftOf 66 = .ok (.iload 4, 2) := by decide +kernel
theorem dX4_shiftOf_68 : decode cX4_shiftOf 68 = .ok (.bipush 10, 2) := by decide +kernel
theorem dX4_shiftOf_70 : decode cX4_shiftOf 70 = .ok (.isub, 1) := by decide +kernel
theorem dX4_shiftOf_71 : decode cX4_shiftOf 71 = .ok (.aload_n 0, 1) := by decide +kernel
theorem dX4_shiftOf_72 : decode cX4_shiftOf 72 = .ok (.getfield 21, 3) := by decide +kernel
theorem dX4_shiftOf_75 : decode cX4_shiftOf 75 = .ok (.iload_n 3, 1) := by decide +kernel
theorem dX4_shiftOf_76 : decode cX4_shiftOf 76 = .ok (.iaload, 1) := by decide +kernel
theorem dX4_shiftOf_77 : decode cX4_shiftOf 77 = .ok (.iadd, 1) := by decide +kernel
theorem dX4_shiftOf_78 : decode cX4_shiftOf 78 = .ok (.invokestatic 78, 3) := by decide +kernel
theorem dX4_shiftOf_81 : decode cX4_shiftOf 81 = .ok (.imul, 1) := by decide +kernel
theorem dX4_shiftOf_82 : decode cX4_shiftOf 82 = .ok (.bipush 40, 2) := by decide +kernel
theorem dX4_shiftOf_84 : decode cX4_shiftOf 84 = .ok (.idiv, 1) := by decide +kernel
theorem dX4_shiftOf_85 : decode cX4_shiftOf 85 = .ok (.ireturn, 1) := by decide +kernel
theorem dX4_shiftOf_86 : decode cX4_shiftOf 86 = .ok (.iload 5, 2) := by decide +kernel
theorem dX4_shiftOf_88 : decode cX4_shiftOf 88 = .ok (.iload 4, 2) := by decide +kernel
theorem dX4_shiftOf_90 : decode cX4_shiftOf 90 = .ok (.imul, 1) := by decide +kernel
theorem dX4_shiftOf_91 : decode cX4_shiftOf 91 = .ok (.bipush 60, 2) := by decide +kernel
theorem dX4_shiftOf_93 : decode cX4_shiftOf 93 = .ok (.idiv, 1) := by decide +kernel
theorem dX4_shiftOf_94 : decode cX4_shiftOf 94 = .ok (.ireturn, 1) := by decide +kernel
theorem dX4_shiftOf_95 : decode cX4_shiftOf 95 = .ok (.iload 5, 2) := by decide +kernel
theorem dX4_shiftOf_97 : decode cX4_shiftOf 97 = .ok (.iload 4, 2) := by decide +kernel
theorem dX4_shiftOf_99 : decode cX4_shiftOf 99 = .ok (.imul, 1) := by decide +kernel
theorem dX4_shiftOf_100 : decode cX4_shiftOf 100 = .ok (.bipush 60, 2) := by decide +kernel
theorem dX4_shiftOf_102 : decode cX4_shiftOf 102 = .ok (.idiv, 1) := by decide +kernel
theorem dX4_shiftOf_103 : decode cX4_shiftOf 103 = .ok (.iload_n 3, 1) := by decide +kernel
theorem dX4_shiftOf_104 : decode cX4_shiftOf 104 = .ok (.iconst 1, 1) := by decide +kernel
theorem dX4_shiftOf_105 : decode cX4_shiftOf 105 = .ok (.iadd, 1) := by decide +kernel
theorem dX4_shiftOf_106 : decode cX4_shiftOf 106 = .ok (.imul, 1) := by decide +kernel
theorem dX4_shiftOf_107 : decode cX4_shiftOf 107 = .ok (.iconst 3, 1) := by decide +kernel
theorem dX4_shiftOf_108 : decode cX4_shiftOf 108 = .ok (.idiv, 1) := by decide +kernel
theorem dX4_shiftOf_109 : decode cX4_shiftOf 109 = .ok (.ireturn, 1) := by decide +kernel
theorem dX4_shiftOf_110 : decode cX4_shiftOf 110 = .ok (.iload 5, 2) := by decide +kernel
theorem dX4_shiftOf_112 : decode cX4_shiftOf 112 = .ok (.iload 4, 2) := by decide +kernel
theorem dX4_shiftOf_114 : decode cX4_shiftOf 114 = .ok (.aload_n 0, 1) := by decide +kernel
theorem dX4_shiftOf_115 : decode cX4_shiftOf 115 = .ok (.getfield 18, 3) := by decide +kernel
theorem dX4_shiftOf_118 : decode cX4_shiftOf 118 = .ok (.iload_n 3, 1) := by decide +kernel
theorem dX4_shiftOf_119 : decode cX4_shiftOf 119 = .ok (.iaload, 1) := by decide +kernel
theorem dX4_shiftOf_120 : decode cX4_shiftOf 120 = .ok (.iadd, 1) := by decide +kernel
theorem dX4_shiftOf_121 : decode cX4_shiftOf 121 = .ok (.imul, 1) := by decide +kernel
theorem dX4_shiftOf_122 : decode cX4_shiftOf 122 = .ok (.bipush 50, 2) := by decide +kernel
theorem dX4_shiftOf_124 : decode cX4_shiftOf 124 = .ok (.idiv, 1) := by decide +kernel
theorem dX4_shiftOf_125 : decode cX4_shiftOf 125 = .ok (.ireturn, 1) := by decide +kernel
theorem dX4_shiftOf_126 : decode cX4_shiftOf 126 = .ok (.iconst 0, 1) := by decide +kernel
theorem dX4_shiftOf_127 : decode cX4_shiftOf 127 = .ok (.ireturn, 1) := by decide +kernel
set_option maxRecDepth 20000 in
theorem ggX4_slipsAt_X4_height : GoodIn wsX4_slipsAt wsX4_height := goodIn_r _ [7, 2, 8, 9, 10, 11, 37, 38, 39, 40, 41, 42, 43, 44, 45, 46] (by decide +kernel) (by decide +kernel)
set_option maxRecDepth 20000 in
theorem gX4_slipsAt_X4_height : GoodIn wsX4_slipsAt (wsV RX4 126 RX4 yX4_height wsX4_height) := goodIn_app (goodIn_of _ (by decide +kernel)) ggX4_slipsAt_X4_height
set_option maxRecDepth 20000 in
theorem ggX4_slipsAt_X4_layerFarthestOut : GoodIn wsX4_slipsAt wsX4_layerFarthestOut := goodIn_r _ [15, 2, 16, 37, 38, 39, 40, 41, 42, 43, 44, 45, 46] (by decide +kernel) (by decide +kernel)
set_option maxRecDepth 20000 in
theorem gX4_slipsAt_X4_layerFarthestOut : GoodIn wsX4_slipsAt (wsV RX4 118 RX4 yX4_layerFarthestOut wsX4_layerFarthestOut) := goodIn_app (goodIn_of _ (by decide +kernel)) ggX4_slipsAt_X4_layerFarthestOut
set_option maxRecDepth 20000 in
theorem ggX4_slipsAt_X4_width : GoodIn wsX4_slipsAt wsX4_width := goodIn_r _ [20, 16, 12, 13, 14, 6, 15, 2, 37, 38, 39, 40, 41, 42, 43, 44, 45, 46] (by decide +kernel) (by decide +kernel)
set_option maxRecDepth 20000 in
theorem gX4_slipsAt_X4_width : GoodIn wsX4_slipsAt (wsV RX4 129 RX4 yX4_width wsX4_width) := goodIn_app (goodIn_of _ (by decide +kernel)) ggX4_slipsAt_X4_width
set_option maxRecDepth 20000 in
theorem ggX4_slipsAt_X4_shiftOf : GoodIn wsX4_slipsAt wsX4_shiftOf := goodIn_r _ [24, 1, 25, 26, 27, 28, 29, 30, 16, 37, 38, 39, 40, 41, 42, 43, 44, 45, 46, 47, 48, 49, 50] (by decide +kernel) (by decide +kernel)
set_option maxRecDepth 20000 in
theorem gX4_slipsAt_X4_shiftOf : GoodIn wsX4_slipsAt (wsV RX4 132 RX4 yX4_shiftOf wsX4_shiftOf) := goodIn_app (goodIn_of _ (by decide +kernel)) ggX4_slipsAt_X4_shiftOf
set_option maxRecDepth 20000 in
theorem ggX4_slipsAt_X4_strengthOf : GoodIn wsX4_slipsAt wsX4_strengthOf := goodIn_r _ [34, 35, 36, 37, 38, 39, 40, 41, 42, 43, 44, 45, 46] (by decide +kernel) (by decide +kernel)
set_option maxRecDepth 20000 in
theorem gX4_slipsAt_X4_strengthOf : GoodIn wsX4_slipsAt (wsV RX4 136 RX4 yX4_strengthOf wsX4_strengthOf) := goodIn_app (goodIn_of _ (by decide +kernel)) ggX4_slipsAt_X4_strengthOf
theorem dX4_slipsAt_0 : decode cX4_slipsAt 0 = .ok (.aload_n 0, 1) := by decide +kernel
theorem dX4_slipsAt_1 : decode cX4_slipsAt 1 = .ok (.getfield 48, 3) := by decide +kernel
theorem dX4_slipsAt_4 : decode cX4_slipsAt 4 = .ok (.iload_n 1, 1) := by decide +kernel
theorem dX4_slipsAt_5 : decode cX4_slipsAt 5 = .ok (.aaload, 1) := by decide +kernel
theorem dX4_slipsAt_6 : decode cX4_slipsAt 6 = .ok (.getfield 122, 3) := by decide +kernel
theorem dX4_slipsAt_9 : decode cX4_slipsAt 9 = .ok (.iload_n 2, 1) := by decide +kernel
theorem dX4_slipsAt_10 : decode cX4_slipsAt 10 = .ok (.iaload, 1) := by decide +kernel
theorem dX4_slipsAt_11 : decode cX4_slipsAt 11 = .ok (.istore 4, 2) := by decide +kernel
theorem dX4_slipsAt_13 : decode cX4_slipsAt 13 = .ok (.aload_n 0, 1) := by decide +kernel
theorem dX4_slipsAt_14 : decode cX4_slipsAt 14 = .ok (.getfield 48, 3) := by decide +kernel
theorem dX4_slipsAt_17 : decode cX4_slipsAt 17 = .ok (.iload_n 1, 1) := by decide +kernel
theorem dX4_slipsAt_18 : decode cX4_slipsAt 18 = .ok (.aaload, 1) := by decide +kernel
theorem dX4_slipsAt_19 : decode cX4_slipsAt 19 = .ok (.getfield 125, 3) := by decide +kernel
theorem dX4_slipsAt_22 : decode cX4_slipsAt 22 = .ok (.iload_n 2, 1) := by decide +kernel
theorem dX4_slipsAt_23 : decode cX4_slipsAt 23 = .ok (.iaload, 1) := by decide +kernel
theorem dX4_slipsAt_24 : decode cX4_slipsAt 24 = .ok (.lookupswitch 84 #[(4, 28), (5, 58)], 28) := by decide +kernel
theorem dX4_slipsAt_52 : decode cX4_slipsAt 52 = .ok (.iload_n 3, 1) := by decide +kernel
theorem dX4_slipsAt_53 : decode cX4_slipsAt 53 = .ok (.aload_n 0, 1) := by decide +kernel
theorem dX4_slipsAt_54 : decode cX4_slipsAt 54 = .ok (.getfield 30, 3) := by decide +kernel
theorem dX4_slipsAt_57 : decode cX4_slipsAt 57 = .ok (.iconst 1, 1) := by decide +kernel
theorem dX4_slipsAt_58 : decode cX4_slipsAt 58 = .ok (.isub, 1) := by decide +kernel
theorem dX4_slipsAt_59 : decode cX4_slipsAt 59 = .ok (.if_icmp .ne 21, 3) := by decide +kernel
theorem dX4_slipsAt_62 : decode cX4_slipsAt 62 = .ok (.aload_n 0, 1) := by decide +kernel
theorem dX4_slipsAt_63 : decode cX4_slipsAt 63 = .ok (.invokevirtual 126, 3) := by decide +kernel
theorem dX4_slipsAt_66 : decode cX4_slipsAt 66 = .ok (.bipush 40, 2) := by decide +kernel
theorem dX4_slipsAt_68 : decode cX4_slipsAt 68 = .ok (.iconst 4, 1) := by decide +kernel
theorem dX4_slipsAt_69 : decode cX4_slipsAt 69 = .ok (.iload 4, 2) := by decide +kernel
theorem dX4_slipsAt_71 : decode cX4_slipsAt 71 = .ok (.imul, 1) := by decide +kernel
theorem dX4_slipsAt_72 : decode cX4_slipsAt 72 = .ok (.iadd, 1) := by decide +kernel
theorem dX4_slipsAt_73 : decode cX4_slipsAt 73 = .ok (.if_icmp .le 7, 3) := by decide +kernel
theorem dX4_slipsAt_76 : decode cX4_slipsAt 76 = .ok (.iconst 1, 1) := by decide +kernel
theorem dX4_slipsAt_77 : decode cX4_slipsAt 77 = .ok (.goto 4, 3) := by decide +kernel
theorem dX4_slipsAt_80 : decode cX4_slipsAt 80 = .ok (.iconst 0, 1) := by decide +kernel
theorem dX4_slipsAt_81 : decode cX4_slipsAt 81 = .ok (.ireturn, 1) := by decide +kernel
theorem dX4_slipsAt_82 : decode cX4_slipsAt 82 = .ok (.iload_n 3, 1) := by decide +kernel
theorem dX4_slipsAt_83 : decode cX4_slipsAt 83 = .ok (.aload_n 0, 1) := by decide +kernel
theorem dX4_slipsAt_84 : decode cX4_slipsAt 84 = .ok (.invokevirtual 118, 3) := by decide +kernel
theorem dX4_slipsAt_87 : decode cX4_slipsAt 87 = .ok (.if_icmp .ne 19, 3) := by decide +kernel
theorem dX4_slipsAt_90 : decode cX4_slipsAt 90 = .ok (.aload_n 0, 1) := by decide +kernel
theorem dX4_slipsAt_91 : decode cX4_slipsAt 91 = .ok (.invokevirtual 129, 3) := by decide +kernel
theorem dX4_slipsAt_94 : decode cX4_slipsAt 94 = .ok (.bipush 90, 2) := by decide +kernel
theorem dX4_slipsAt_96 : decode cX4_slipsAt 96 = .ok (.iload 4, 2) := by decide +kernel
theorem dX4_slipsAt_98 : decode cX4_slipsAt 98 = .ok (.iadd, 1) := by decide +kernel
theorem dX4_slipsAt_99 : decode cX4_slipsAt 99 = .ok (.if_icmp .le 7, 3) := by decide +kernel
theorem dX4_slipsAt_102 : decode cX4_slipsAt 102 = .ok (.iconst 1, 1) := by decide +kernel
theorem dX4_slipsAt_103 : decode cX4_slipsAt 103 = .ok (.goto 4, 3) := by decide +kernel
theorem dX4_slipsAt_106 : decode cX4_slipsAt 106 = .ok (.iconst 0, 1) := by decide +kernel
theorem dX4_slipsAt_107 : decode cX4_slipsAt 107 = .ok (.ireturn, 1) := by decide +kernel
theorem dX4_slipsAt_108 : decode cX4_slipsAt 108 = .ok (.aload_n 0, 1) := by decide +kernel
theorem dX4_slipsAt_109 : decode cX4_slipsAt 109 = .ok (.iload_n 1, 1) := by decide +kernel
theorem dX4_slipsAt_110 : decode cX4_slipsAt 110 = .ok (.iload_n 2, 1) := by decide +kernel
theorem dX4_slipsAt_111 : decode cX4_slipsAt 111 = .ok (.iload_n 3, 1) := by decide +kernel
theorem dX4_slipsAt_112 : decode cX4_slipsAt 112 = .ok (.invokevirtual 132, 3) := by decide +kernel
theorem dX4_slipsAt_115 : decode cX4_slipsAt 115 = .ok (.aload_n 0, 1) := by decide +kernel
theorem dX4_slipsAt_116 : decode cX4_slipsAt 116 = .ok (.iload_n 3, 1) := by decide +kernel
theorem dX4_slipsAt_117 : decode cX4_slipsAt 117 = .ok (.invokevirtual 136, 3) := by decide +kernel
theorem dX4_slipsAt_120 : decode cX4_slipsAt 120 = .ok (.if_icmp .le 7, 3) := by decide +kernel
theorem dX4_slipsAt_123 : decode cX4_slipsAt 123 = .ok (.iconst 1, 1) := by decide +kernel
theorem dX4_slipsAt_124 : decode cX4_slipsAt 124 = .ok (.goto 4, 3) := by decide +kernel
theorem dX4_slipsAt_127 : decode cX4_slipsAt 127 = .ok (.iconst 0, 1) := by decide +kernel
theorem dX4_slipsAt_128 : decode cX4_slipsAt 128 = .ok (.ireturn, 1) := by decide +kernel
set_option maxRecDepth 20000 in
theorem ggX4_layerOfSlip_X4_slipsAt : GoodIn wsX4_layerOfSlip wsX4_slipsAt := goodIn_r _ [6, 7, 1, 8, 9, 10, 5, 11, 12, 13, 14, 15, 16, 17, 18, 19, 20, 21, 22, 23, 24, 25, 26, 27, 28, 29, 30, 31, 32, 33, 34, 35, 36, 37, 38, 39, 40, 41, 42, 43, 44, 45, 46, 47, 48, 49, 50, 51, 52, 53, 54] (by decide +kernel) (by decide +kernel)
set_option maxRecDepth 20000 in
theorem gX4_layerOfSlip_X4_slipsAt : GoodIn wsX4_layerOfSlip (wsV RX4 139 RX4 yX4_slipsAt wsX4_slipsAt) := goodIn_app (goodIn_of _ (by decide +kernel)) ggX4_layerOfSlip_X4_slipsAt
theorem dX4_layerOfSlip_0 : decode cX4_layerOfSlip 0 = .ok (.iconst 0, 1) := by decide +kernel
theorem dX4_layerOfSlip_1 : decode cX4_layerOfSlip 1 = .ok (.istore_n 3, 1) := by decide +kernel
theorem dX4_layerOfSlip_2 : decode cX4_layerOfSlip 2 = .ok (.iload_n 3, 1) := by decide +kernel
theorem dX4_layerOfSlip_3 : decode cX4_layerOfSlip 3 = .ok (.aload_n 0, 1) := by decide +kernel
theorem dX4_layerOfSlip_4 : decode cX4_layerOfSlip 4 = .ok (.getfield 30, 3) := by decide +kernel
theorem dX4_layerOfSlip_7 : decode cX4_layerOfSlip 7 = .ok (.if_icmp .ge 21, 3) := by decide +kernel
theorem dX4_layerOfSlip_10 : decode cX4_layerOfSlip 10 = .ok (.aload_n 0, 1) := by decide +kernel
theorem dX4_layerOfSlip_11 : decode cX4_layerOfSlip 11 = .ok (.iload_n 1, 1) := by decide +kernel
theorem dX4_layerOfSlip_12 : decode cX4_layerOfSlip 12 = .ok (.iload_n 2, 1) := by decide +kernel
theorem dX4_layerOfSlip_13 : decode cX4_layerOfSlip 13 = .ok (.iload_n 3, 1) := by decide +kernel
theorem dX4_layerOfSlip_14 : decode cX4_layerOfSlip 14 = .ok (.invokevirtual 139, 3) := by decide +kernel
theorem dX4_layerOfSlip_17 : decode cX4_layerOfSlip 17 = .ok (.ifCond .eq 5, 3) := by decide +kernel
theorem dX4_layerOfSlip_20 : decode cX4_layerOfSlip 20 = .ok (.iload_n 3, 1) := by decide +kernel
theorem dX4_layerOfSlip_21 : decode cX4_layerOfSlip 21 = .ok (.ireturn, 1) := by decide +kernel
theorem dX4_layerOfSlip_22 : decode cX4_layerOfSlip 22 = .ok (.iinc 3 1, 3) := by decide +kernel
theorem dX4_layerOfSlip_25 : decode cX4_layerOfSlip 25 = .ok (.goto (-23), 3) := by decide +kernel
theorem dX4_layerOfSlip_28 : decode cX4_layerOfSlip 28 = .ok (.iconst (-1), 1) := by decide +kernel
theorem dX4_layerOfSlip_29 : decode cX4_layerOfSlip 29 = .ok (.ireturn, 1) := by decide +kernel
set_option maxRecDepth 20000 in
theorem ggX4_pieceOfSlip_X4_layerOfSlip : GoodIn wsX4_pieceOfSlip wsX4_layerOfSlip := goodIn_r _ [6, 7, 8, 9, 10, 5, 11, 1, 12, 13, 14, 15, 16, 17, 18, 19, 20, 21, 22, 23, 24, 25, 26, 27, 28, 29, 30, 31, 32, 33, 34, 35, 36, 37, 38, 39, 40, 41, 42, 43, 44, 45, 46, 47, 48, 49, 50, 51, 52, 53, 54, 55, 56, 57, 58] (by decide +kernel) (by decide +kernel)
set_option maxRecDepth 20000 in
theorem gX4_pieceOfSlip_X4_layerOfSlip : GoodIn wsX4_pieceOfSlip (wsV RX4 143 RX4 yX4_layerOfSlip wsX4_layerOfSlip) := goodIn_app (goodIn_of _ (by decide +kernel)) ggX4_pieceOfSlip_X4_layerOfSlip
theorem dX4_pieceOfSlip_0 : decode cX4_pieceOfSlip 0 = .ok (.iconst 0, 1) := by decide +kernel
theorem dX4_pieceOfSlip_1 : decode cX4_pieceOfSlip 1 = .ok (.istore_n 2, 1) := by decide +kernel
theorem dX4_pieceOfSlip_2 : decode cX4_pieceOfSlip 2 = .ok (.iload_n 2, 1) := by decide +kernel
theorem dX4_pieceOfSlip_3 : decode cX4_pieceOfSlip 3 = .ok (.aload_n 0, 1) := by decide +kernel
theorem dX4_pieceOfSlip_4 : decode cX4_pieceOfSlip 4 = .ok (.getfield 48, 3) := by decide +kernel
theorem dX4_pieceOfSlip_7 : decode cX4_pieceOfSlip 7 = .ok (.iload_n 1, 1) := by decide +kernel
theorem dX4_pieceOfSlip_8 : decode cX4_pieceOfSlip 8 = .ok (.aaload, 1) := by decide +kernel
theorem dX4_pieceOfSlip_9 : decode cX4_pieceOfSlip 9 = .ok (.getfield 69, 3) := by decide +kernel
theorem dX4_pieceOfSlip_12 : decode cX4_pieceOfSlip 12 = .ok (.if_icmp .ge 20, 3) := by decide +kernel
theorem dX4_pieceOfSlip_15 : decode cX4_pieceOfSlip 15 = .ok (.aload_n 0, 1) := by decide +kernel
theorem dX4_pieceOfSlip_16 : decode cX4_pieceOfSlip 16 = .ok (.iload_n 1, 1) := by decide +kernel
theorem dX4_pieceOfSlip_17 : decode cX4_pieceOfSlip 17 = .ok (.iload_n 2, 1) := by decide +kernel
theorem dX4_pieceOfSlip_18 : decode cX4_pieceOfSlip 18 = .ok (.invokevirtual 143, 3) := by decide +kernel
theorem dX4_pieceOfSlip_21 : decode cX4_pieceOfSlip 21 = .ok (.ifCond .lt 5, 3) := by decide +kernel
theorem dX4_pieceOfSlip_24 : decode cX4_pieceOfSlip 24 = .ok (.iload_n 2, 1) := by decide +kernel
theorem dX4_pieceOfSlip_25 : decode cX4_pieceOfSlip 25 = .ok (.ireturn, 1) := by decide +kernel
theorem dX4_pieceOfSlip_26 : decode cX4_pieceOfSlip 26 = .ok (.iinc 2 1, 3) := by decide +kernel
theorem dX4_pieceOfSlip_29 : decode cX4_pieceOfSlip 29 = .ok (.goto (-27), 3) := by decide +kernel
theorem dX4_pieceOfSlip_32 : decode cX4_pieceOfSlip 32 = .ok (.iconst (-1), 1) := by decide +kernel
theorem dX4_pieceOfSlip_33 : decode cX4_pieceOfSlip 33 = .ok (.ireturn, 1) := by decide +kernel
set_option maxRecDepth 20000 in
theorem ggX4_holds_X4_pieceOfSlip : GoodIn wsX4_holds wsX4_pieceOfSlip := goodIn_r _ [5, 6, 7, 8, 9, 4, 10, 11, 12, 13, 14, 15, 16, 17, 18, 19, 20, 21, 22, 23, 24, 25, 26, 27, 28, 29, 30, 31, 32, 33, 34, 35, 36, 37, 38, 39, 40, 41, 42, 43, 44, 45, 46, 47, 48, 49, 50, 51, 52, 53, 54, 55, 56, 57, 58, 59, 60, 61, 62] (by decide +kernel) (by decide +kernel)
set_option maxRecDepth 20000 in
theorem gX4_holds_X4_pieceOfSlip : GoodIn wsX4_holds (wsV RX4 146 RX4 yX4_pieceOfSlip wsX4_pieceOfSlip) := goodIn_app (goodIn_of _ (by decide +kernel)) ggX4_holds_X4_pieceOfSlip
theorem dX4_holds_0 : decode cX4_holds 0 = .ok (.aload_n 0, 1) := by decide +kernel
theorem dX4_holds_1 : decode cX4_holds 1 = .ok (.iload_n 1, 1) := by decide +kernel
theorem dX4_holds_2 : decode cX4_holds 2 = .ok (.invokevirtual 146, 3) := by decide +kernel
theorem dX4_holds_5 : decode cX4_holds 5 = .ok (.ifCond .ge 7, 3) := by decide +kernel
theorem dX4_holds_8 : decode cX4_holds 8 = .ok (.iconst 1, 1) := by decide +kernel
theorem dX4_holds_9 : decode cX4_holds 9 = .ok (.goto 4, 3) := by decide +kernel
theorem dX4_holds_12 : decode cX4_holds 12 = .ok (.iconst 0, 1) := by decide +kernel
theorem dX4_holds_13 : decode cX4_holds 13 = .ok (.ireturn, 1) := by decide +kernel
set_option maxRecDepth 20000 in
theorem ggX4_leastMargin_X4_marginAt : GoodIn wsX4_leastMargin wsX4_marginAt := goodIn_r _ [10, 11, 2, 3, 4, 5, 12, 13, 14, 9, 15, 16, 17, 18, 19, 20, 21, 1, 22, 23, 24, 25, 26, 27, 28, 29, 30, 31, 32, 33, 34, 35, 36, 37, 38, 39, 40, 41] (by decide +kernel) (by decide +kernel)
set_option maxRecDepth 20000 in
theorem gX4_leastMargin_X4_marginAt : GoodIn wsX4_leastMargin (wsV RX4 151 RX4 yX4_marginAt wsX4_marginAt) := goodIn_app (goodIn_of _ (by decide +kernel)) ggX4_leastMargin_X4_marginAt
theorem dX4_leastMargin_0 : decode cX4_leastMargin 0 = .ok (.sipush 9999, 3) := by decide +kernel
theorem dX4_leastMargin_3 : decode cX4_leastMargin 3 = .ok (.istore_n 2, 1) := by decide +kernel
theorem dX4_leastMargin_4 : decode cX4_leastMargin 4 = .ok (.iconst 0, 1) := by decide +kernel
theorem dX4_leastMargin_5 : decode cX4_leastMargin 5 = .ok (.istore_n 3, 1) := by decide +kernel
theorem dX4_leastMargin_6 : decode cX4_leastMargin 6 = .ok (.iload_n 3, 1) := by decide +kernel
theorem dX4_leastMargin_7 : decode cX4_leastMargin 7 = .ok (.aload_n 0, 1) := by decide +kernel
theorem dX4_leastMargin_8 : decode cX4_leastMargin 8 = .ok (.getfield 48, 3) := by decide +kernel
theorem dX4_leastMargin_11 : decode cX4_leastMargin 11 = .ok (.iload_n 1, 1) := by decide +kernel
theorem dX4_leastMargin_12 : decode cX4_leastMargin 12 = .ok (.aaload, 1) := by decide +kernel
theorem dX4_leastMargin_13 : decode cX4_leastMargin 13 = .ok (.getfield 69, 3) := by decide +kernel
theorem dX4_leastMargin_16 : decode cX4_leastMargin 16 = .ok (.if_icmp .ge 35, 3) := by decide +kernel
theorem dX4_leastMargin_19 : decode cX4_leastMargin 19 = .ok (.aload_n 0, 1) := by decide +kernel
theorem dX4_leastMargin_20 : decode cX4_leastMargin 20 = .ok (.getfield 48, 3) := by decide +kernel
theorem dX4_leastMargin_23 : decode cX4_leastMargin 23 = .ok (.iload_n 1, 1) := by decide +kernel
theorem dX4_leastMargin_24 : decode cX4_leastMargin 24 = .ok (.aaload, 1) := by decide +kernel
theorem dX4_leastMargin_25 : decode cX4_leastMargin 25 = .ok (.getfield 125, 3) := by decide +kernel
theorem dX4_leastMargin_28 : decode cX4_leastMargin 28 = .ok (.iload_n 3, 1) := by decide +kernel
theorem dX4_leastMargin_29 : decode cX4_leastMargin 29 = .ok (.iaload, 1) := by decide +kernel
theorem dX4_leastMargin_30 : decode cX4_leastMargin 30 = .ok (.iconst 4, 1) := by decide +kernel
theorem dX4_leastMargin_31 : decode cX4_leastMargin 31 = .ok (.if_icmp .ge 14, 3) := by decide +kernel
theorem dX4_leastMargin_34 : decode cX4_leastMargin 34 = .ok (.iload_n 2, 1) := by decide +kernel
theorem dX4_leastMargin_35 : decode cX4_leastMargin 35 = .ok (.aload_n 0, 1) := by decide +kernel
theorem dX4_leastMargin_36 : decode cX4_leastMargin 36 = .ok (.iload_n 1, 1) := by decide +kernel
theorem dX4_leastMargin_37 : decode cX4_leastMargin 37 = .ok (.iload_n 3, 1) := by decide +kernel
theorem dX4_leastMargin_38 : decode cX4_leastMargin 38 = .ok (.invokevirtual 151, 3) := by decide +kernel
theorem dX4_leastMargin_41 : decode cX4_leastMargin 41 = .ok (.invokestatic 97, 3) := by decide +kernel
theorem dX4_leastMargin_44 : decode cX4_leastMargin 44 = .ok (.istore_n 2, 1) := by decide +kernel
theorem dX4_leastMargin_45 : decode cX4_leastMargin 45 = .ok (.iinc 3 1, 3) := by decide +kernel
theorem dX4_leastMargin_48 : decode cX4_leastMargin 48 = .ok (.goto (-42), 3) := by decide +kernel
theorem dX4_leastMargin_51 : decode cX4_leastMargin 51 = .ok (.iload_n 2, 1) := by decide +kernel
theorem dX4_leastMargin_52 : decode cX4_leastMargin 52 = .ok (.ireturn, 1) := by decide +kernel
set_option maxRecDepth 20000 in
theorem ggX4_marginAt_X4_strengthOf : GoodIn wsX4_marginAt wsX4_strengthOf := goodIn_r _ [10, 11, 12, 24, 25, 26, 27, 28, 29, 30, 31, 32, 33] (by decide +kernel) (by decide +kernel)
set_option maxRecDepth 20000 in
theorem gX4_marginAt_X4_strengthOf : GoodIn wsX4_marginAt (wsV RX4 136 RX4 yX4_strengthOf wsX4_strengthOf) := goodIn_app (goodIn_of _ (by decide +kernel)) ggX4_marginAt_X4_strengthOf
set_option maxRecDepth 20000 in
theorem ggX4_marginAt_X4_shiftOf : GoodIn wsX4_marginAt wsX4_shiftOf := goodIn_r _ [16, 17, 18, 19, 20, 21, 4, 22, 23, 24, 25, 26, 27, 28, 29, 30, 31, 32, 33, 34, 35, 36, 37] (by decide +kernel) (by decide +kernel)
set_option maxRecDepth 20000 in
theorem gX4_marginAt_X4_shiftOf : GoodIn wsX4_marginAt (wsV RX4 132 RX4 yX4_shiftOf wsX4_shiftOf) := goodIn_app (goodIn_of _ (by decide +kernel)) ggX4_marginAt_X4_shiftOf
theorem dX4_marginAt_0 : decode cX4_marginAt 0 = .ok (.sipush 9999, 3) := by decide +kernel
theorem dX4_marginAt_3 : decode cX4_marginAt 3 = .ok (.istore_n 3, 1) := by decide +kernel
theorem dX4_marginAt_4 : decode cX4_marginAt 4 = .ok (.iconst 0, 1) := by decide +kernel
theorem dX4_marginAt_5 : decode cX4_marginAt 5 = .ok (.istore 4, 2) := by decide +kernel
theorem dX4_marginAt_7 : decode cX4_marginAt 7 = .ok (.iload 4, 2) := by decide +kernel
theorem dX4_marginAt_9 : decode cX4_marginAt 9 = .ok (.aload_n 0, 1) := by decide +kernel
theorem dX4_marginAt_10 : decode cX4_marginAt 10 = .ok (.getfield 30, 3) := by decide +kernel
theorem dX4_marginAt_13 : decode cX4_marginAt 13 = .ok (.if_icmp .ge 29, 3) := by decide +kernel
theorem dX4_marginAt_16 : decode cX4_marginAt 16 = .ok (.iload_n 3, 1) := by decide +kernel
theorem dX4_marginAt_17 : decode cX4_marginAt 17 = .ok (.aload_n 0, 1) := by decide +kernel
theorem dX4_marginAt_18 : decode cX4_marginAt 18 = .ok (.iload 4, 2) := by decide +kernel
theorem dX4_marginAt_20 : decode cX4_marginAt 20 = .ok (.invokevirtual 136, 3) := by decide +kernel
theorem dX4_marginAt_23 : decode cX4_marginAt 23 = .ok (.aload_n 0, 1) := by decide +kernel
theorem dX4_marginAt_24 : decode cX4_marginAt 24 = .ok (.iload_n 1, 1) := by decide +kernel
theorem dX4_marginAt_25 : decode cX4_marginAt 25 = .ok (.iload_n 2, 1) := by decide +kernel
theorem dX4_marginAt_26 : decode cX4_marginAt 26 = .ok (.iload 4, 2) := by decide +kernel
theorem dX4_marginAt_28 : decode cX4_marginAt 28 = .ok (.invokevirtual 132, 3) := by decide +kernel
theorem dX4_marginAt_31 : decode cX4_marginAt 31 = .ok (.isub, 1) := by decide +kernel
theorem dX4_marginAt_32 : decode cX4_marginAt 32 = .ok (.invokestatic 97, 3) := by decide +kernel
theorem dX4_marginAt_35 : decode cX4_marginAt 35 = .ok (.istore_n 3, 1) := by decide +kernel
theorem dX4_marginAt_36 : decode cX4_marginAt 36 = .ok (.iinc 4 1, 3) := by decide +kernel
theorem dX4_marginAt_39 : decode cX4_marginAt 39 = .ok (.goto (-32), 3) := by decide +kernel
theorem dX4_marginAt_42 : decode cX4_marginAt 42 = .ok (.iload_n 3, 1) := by decide +kernel
theorem dX4_marginAt_43 : decode cX4_marginAt 43 = .ok (.ireturn, 1) := by decide +kernel
set_option maxRecDepth 20000 in
theorem ggX4_pitchingMinutes_X4_allSheaves : GoodIn wsX4_pitchingMinutes wsX4_allSheaves := goodIn_r _ [5, 6, 7, 8, 9, 10, 11, 12, 13, 14, 15, 16, 17] (by decide +kernel) (by decide +kernel)
set_option maxRecDepth 20000 in
theorem gX4_pitchingMinutes_X4_allSheaves : GoodIn wsX4_pitchingMinutes (wsV RX4 154 RX4 yX4_allSheaves wsX4_allSheaves) := goodIn_app (goodIn_of _ (by decide +kernel)) ggX4_pitchingMinutes_X4_allSheaves
theorem dX4_pitchingMinutes_0 : decode cX4_pitchingMinutes 0 = .ok (.iload_n 1, 1) := by decide +kernel
theorem dX4_pitchingMinutes_1 : decode cX4_pitchingMinutes 1 = .ok (.iconst 1, 1) := by decide +kernel
theorem dX4_pitchingMinutes_2 : decode cX4_pitchingMinutes 2 = .ok (.if_icmp .ge 7, 3) := by decide +kernel
theorem dX4_pitchingMinutes_5 : decode cX4_pitchingMinutes 5 = .ok (.iconst 0, 1) := by decide +kernel
theorem dX4_pitchingMinutes_6 : decode cX4_pitchingMinutes 6 = .ok (.goto 13, 3) := by decide +kernel
theorem dX4_pitchingMinutes_9 : decode cX4_pitchingMinutes 9 = .ok (.aload_n 0, 1) := by decide +kernel
theorem dX4_pitchingMinutes_10 : decode cX4_pitchingMinutes 10 = .ok (.invokevirtual 154, 3) := by decide +kernel
theorem dX4_pitchingMinutes_13 : decode cX4_pitchingMinutes 13 = .ok (.iload_n 1, 1) := by decide +kernel
theorem dX4_pitchingMinutes_14 : decode cX4_pitchingMinutes 14 = .ok (.iadd, 1) := by decide +kernel
theorem dX4_pitchingMinutes_15 : decode cX4_pitchingMinutes 15 = .ok (.iconst 1, 1) := by decide +kernel
theorem dX4_pitchingMinutes_16 : decode cX4_pitchingMinutes 16 = .ok (.isub, 1) := by decide +kernel
theorem dX4_pitchingMinutes_17 : decode cX4_pitchingMinutes 17 = .ok (.iload_n 1, 1) := by decide +kernel
theorem dX4_pitchingMinutes_18 : decode cX4_pitchingMinutes 18 = .ok (.idiv, 1) := by decide +kernel
theorem dX4_pitchingMinutes_19 : decode cX4_pitchingMinutes 19 = .ok (.ireturn, 1) := by decide +kernel
set_option maxRecDepth 20000 in
theorem ggX4_sheavesHome_X4_pitchingMinutes : GoodIn wsX4_sheavesHome wsX4_pitchingMinutes := goodIn_r _ [15, 16, 17, 18, 14, 19, 20, 21, 32, 33, 34, 35, 36, 37, 38, 39, 40, 41] (by decide +kernel) (by decide +kernel)
set_option maxRecDepth 20000 in
theorem gX4_sheavesHome_X4_pitchingMinutes : GoodIn wsX4_sheavesHome (wsV RX4 157 RX4 yX4_pitchingMinutes wsX4_pitchingMinutes) := goodIn_app (goodIn_of _ (by decide +kernel)) ggX4_sheavesHome_X4_pitchingMinutes
set_option maxRecDepth 20000 in
theorem ggX4_sheavesHome_X5_allMinutes : GoodIn wsX4_sheavesHome wsX5_allMinutes := goodIn_r _ [25, 26, 27, 42, 43, 44, 45] (by decide +kernel) (by decide +kernel)
set_option maxRecDepth 20000 in
theorem gX4_sheavesHome_X5_allMinutes_n160 : GoodIn wsX4_sheavesHome (wsX5_allMinutes) := ggX4_sheavesHome_X5_allMinutes
set_option maxRecDepth 20000 in
theorem ggX4_sheavesHome_X4_firstBack : GoodIn wsX4_sheavesHome wsX4_firstBack := goodIn_r _ [31, 3, 32, 33, 34, 35, 36, 37, 38, 39, 40, 41] (by decide +kernel) (by decide +kernel)
set_option maxRecDepth 20000 in
theorem gX4_sheavesHome_X4_firstBack : GoodIn wsX4_sheavesHome (wsV RX4 163 RX4 yX4_firstBack wsX4_firstBack) := goodIn_app (goodIn_of _ (by decide +kernel)) ggX4_sheavesHome_X4_firstBack
set_option maxRecDepth 20000 in
theorem ggX4_sheavesHome_X4_allSheaves : GoodIn wsX4_sheavesHome wsX4_allSheaves := goodIn_r _ [19, 20, 21, 32, 33, 34, 35, 36, 37, 38, 39, 40, 41] (by decide +kernel) (by decide +kernel)
set_option maxRecDepth 20000 in
theorem gX4_sheavesHome_X4_allSheaves : GoodIn wsX4_sheavesHome (wsV RX4 154 RX4 yX4_allSheaves wsX4_allSheaves) := goodIn_app (goodIn_of _ (by decide +kernel)) ggX4_sheavesHome_X4_allSheaves
theorem dX4_sheavesHome_0 : decode cX4_sheavesHome 0 = .ok (.aload_n 0, 1) := by decide +kernel
theorem dX4_sheavesHome_1 : decode cX4_sheavesHome 1 = .ok (.aload_n 0, 1) := by decide +kernel
theorem dX4_sheavesHome_2 : decode cX4_sheavesHome 2 = .ok (.getfield 42, 3) := by decide +kernel
theorem dX4_sheavesHome_5 : decode cX4_sheavesHome 5 = .ok (.iconst 2, 1) := by decide +kernel
theorem dX4_sheavesHome_6 : decode cX4_sheavesHome 6 = .ok (.iaload, 1) := by decide +kernel
theorem dX4_sheavesHome_7 : decode cX4_sheavesHome 7 = .ok (.invokevirtual 157, 3) := by decide +kernel
theorem dX4_sheavesHome_10 : decode cX4_sheavesHome 10 = .ok (.istore 4, 2) := by decide +kernel
theorem dX4_sheavesHome_12 : decode cX4_sheavesHome 12 = .ok (.aload_n 0, 1) := by decide +kernel
theorem dX4_sheavesHome_13 : decode cX4_sheavesHome 13 = .ok (.getfield 48, 3) := by decide +kernel
theorem dX4_sheavesHome_16 : decode cX4_sheavesHome 16 = .ok (.iload_n 1, 1) := by decide +kernel
theorem dX4_sheavesHome_17 : decode cX4_sheavesHome 17 = .ok (.aaload, 1) := by decide +kernel
theorem dX4_sheavesHome_18 : decode cX4_sheavesHome 18 = .ok (.invokevirtual 160, 3) := by decide +kernel
theorem dX4_sheavesHome_21 : decode cX4_sheavesHome 21 = .ok (.istore 5, 2) := by decide +kernel
theorem dX4_sheavesHome_23 : decode cX4_sheavesHome 23 = .ok (.iconst 0, 1) := by decide +kernel
theorem dX4_sheavesHome_24 : decode cX4_sheavesHome 24 = .ok (.istore 6, 2) := by decide +kernel
theorem dX4_sheavesHome_26 : decode cX4_sheavesHome 26 = .ok (.iload 6, 2) := by decide +kernel
theorem dX4_sheavesHome_28 : decode cX4_sheavesHome 28 = .ok (.aload_n 0, 1) := by decide +kernel
theorem dX4_sheavesHome_29 : decode cX4_sheavesHome 29 = .ok (.getfield 52, 3) := by decide +kernel
theorem dX4_sheavesHome_32 : decode cX4_sheavesHome 32 = .ok (.arraylength, 1) := by decide +kernel
theorem dX4_sheavesHome_33 : decode cX4_sheavesHome 33 = .ok (.if_icmp .ge 17, 3) := by decide +kernel
theorem dX4_sheavesHome_36 : decode cX4_sheavesHome 36 = .ok (.aload_n 0, 1) := by decide +kernel
theorem dX4_sheavesHome_37 : decode cX4_sheavesHome 37 = .ok (.getfield 52, 3) := by decide +kernel
theorem dX4_sheavesHome_40 : decode cX4_sheavesHome 40 = .ok (.iload 6, 2) := by decide +kernel
theorem dX4_sheavesHome_42 : decode cX4_sheavesHome 42 = .ok (.iconst 0, 1) := by decide +kernel
theorem dX4_sheavesHome_43 : decode cX4_sheavesHome 43 = .ok (.iastore, 1) := by decide +kernel
theorem dX4_sheavesHome_44 : decode cX4_sheavesHome 44 = .ok (.iinc 6 1, 3) := by decide +kernel
theorem dX4_sheavesHome_47 : decode cX4_sheavesHome 47 = .ok (.goto (-21), 3) := by decide +kernel
theorem dX4_sheavesHome_50 : decode cX4_sheavesHome 50 = .ok (.iconst 0, 1) := by decide +kernel
theorem dX4_sheavesHome_51 : decode cX4_sheavesHome 51 = .ok (.istore 6, 2) := by decide +kernel
theorem dX4_sheavesHome_53 : decode cX4_sheavesHome 53 = .ok (.iconst 0, 1) := by decide +kernel
theorem dX4_sheavesHome_54 : decode cX4_sheavesHome 54 = .ok (.istore 7, 2) := by decide +kernel
theorem dX4_sheavesHome_56 : decode cX4_sheavesHome 56 = .ok (.iconst 0, 1) := by decide +kernel
theorem dX4_sheavesHome_57 : decode cX4_sheavesHome 57 = .ok (.istore 8, 2) := by decide +kernel
theorem dX4_sheavesHome_59 : decode cX4_sheavesHome 59 = .ok (.iload 8, 2) := by decide +kernel
theorem dX4_sheavesHome_61 : decode cX4_sheavesHome 61 = .ok (.iload_n 3, 1) := by decide +kernel
theorem dX4_sheavesHome_62 : decode cX4_sheavesHome 62 = .ok (.if_icmp .ge 71, 3) := by decide +kernel
theorem dX4_sheavesHome_65 : decode cX4_sheavesHome 65 = .ok (.aload_n 0, 1) := by decide +kernel
theorem dX4_sheavesHome_66 : decode cX4_sheavesHome 66 = .ok (.iload_n 2, 1) := by decide +kernel
theorem dX4_sheavesHome_67 : decode cX4_sheavesHome 67 = .ok (.invokevirtual 163, 3) := by decide +kernel
theorem dX4_sheavesHome_70 : decode cX4_sheavesHome 70 = .ok (.istore 9, 2) := by decide +kernel
theorem dX4_sheavesHome_72 : decode cX4_sheavesHome 72 = .ok (.iload 6, 2) := by decide +kernel
theorem dX4_sheavesHome_74 : decode cX4_sheavesHome 74 = .ok (.aload_n 0, 1) := by decide +kernel
theorem dX4_sheavesHome_75 : decode cX4_sheavesHome 75 = .ok (.getfield 52, 3) := by decide +kernel
theorem dX4_sheavesHome_78 : decode cX4_sheavesHome 78 = .ok (.iload 9, 2) := by decide +kernel
theorem dX4_sheavesHome_80 : decode cX4_sheavesHome 80 = .ok (.iaload, 1) := by decide +kernel
theorem dX4_sheavesHome_81 : decode cX4_sheavesHome 81 = .ok (.invokestatic 100, 3) := by decide +kernel
theorem dX4_sheavesHome_84 : decode cX4_sheavesHome 84 = .ok (.iload 4, 2) := by decide +kernel
theorem dX4_sheavesHome_86 : decode cX4_sheavesHome 86 = .ok (.iadd, 1) := by decide +kernel
theorem dX4_sheavesHome_87 : decode cX4_sheavesHome 87 = .ok (.istore 10, 2) := by decide +kernel
theorem dX4_sheavesHome_89 : decode cX4_sheavesHome 89 = .ok (.iload 10, 2) := by decide +kernel
theorem dX4_sheavesHome_91 : decode cX4_sheavesHome 91 = .ok (.iload 5, 2) := by decide +kernel
theorem dX4_sheavesHome_93 : decode cX4_sheavesHome 93 = .ok (.iadd, 1) := by decide +kernel
theorem dX4_sheavesHome_94 : decode cX4_sheavesHome 94 = .ok (.iload 4, 2) := by decide +kernel
theorem dX4_sheavesHome_96 : decode cX4_sheavesHome 96 = .ok (.iadd, 1) := by decide +kernel
theorem dX4_sheavesHome_97 : decode cX4_sheavesHome 97 = .ok (.istore 11, 2) := by decide +kernel
theorem dX4_sheavesHome_99 : decode cX4_sheavesHome 99 = .ok (.iload 11, 2) := by decide +kernel
theorem dX4_sheavesHome_101 : decode cX4_sheavesHome 101 = .ok (.iload_n 3, 1) := by decide +kernel
theorem dX4_sheavesHome_102 : decode cX4_sheavesHome 102 = .ok (.if_icmp .le 6, 3) := by decide +kernel
theorem dX4_sheavesHome_105 : decode cX4_sheavesHome 105 = .ok (.goto 28, 3) := by decide +kernel
theorem dX4_sheavesHome_108 : decode cX4_sheavesHome 108 = .ok (.iinc 7 1, 3) := by decide +kernel
theorem dX4_sheavesHome_111 : decode cX4_sheavesHome 111 = .ok (.iload 10, 2) := by decide +kernel
theorem dX4_sheavesHome_113 : decode cX4_sheavesHome 113 = .ok (.istore 6, 2) := by decide +kernel
theorem dX4_sheavesHome_115 : decode cX4_sheavesHome 115 = .ok (.aload_n 0, 1) := by decide +kernel
theorem dX4_sheavesHome_116 : decode cX4_sheavesHome 116 = .ok (.getfield 52, 3) := by decide +kernel
theorem dX4_sheavesHome_119 : decode cX4_sheavesHome 119 = .ok (.iload 9, 2) := by decide +kernel
theorem dX4_sheavesHome_121 : decode cX4_sheavesHome 121 = .ok (.iload 11, 2) := by decide +kernel
theorem dX4_sheavesHome_123 : decode cX4_sheavesHome 123 = .ok (.iload 5, 2) := by decide +kernel
theorem dX4_sheavesHome_125 : decode cX4_sheavesHome 125 = .ok (.iadd, 1) := by decide +kernel
theorem dX4_sheavesHome_126 : decode cX4_sheavesHome 126 = .ok (.iastore, 1) := by decide +kernel
theorem dX4_sheavesHome_127 : decode cX4_sheavesHome 127 = .ok (.iinc 8 1, 3) := by decide +kernel
theorem dX4_sheavesHome_130 : decode cX4_sheavesHome 130 = .ok (.goto (-71), 3) := by decide +kernel
theorem dX4_sheavesHome_133 : decode cX4_sheavesHome 133 = .ok (.aload_n 0, 1) := by decide +kernel
theorem dX4_sheavesHome_134 : decode cX4_sheavesHome 134 = .ok (.getfield 42, 3) := by decide +kernel
theorem dX4_sheavesHome_137 : decode cX4_sheavesHome 137 = .ok (.iconst 3, 1) := by decide +kernel
theorem dX4_sheavesHome_138 : decode cX4_sheavesHome 138 = .ok (.iaload, 1) := by decide +kernel
theorem dX4_sheavesHome_139 : decode cX4_sheavesHome 139 = .ok (.iload 7, 2) := by decide +kernel
theorem dX4_sheavesHome_141 : decode cX4_sheavesHome 141 = .ok (.aload_n 0, 1) := by decide +kernel
theorem dX4_sheavesHome_142 : decode cX4_sheavesHome 142 = .ok (.invokevirtual 154, 3) := by decide +kernel
theorem dX4_sheavesHome_145 : decode cX4_sheavesHome 145 = .ok (.imul, 1) := by decide +kernel
theorem dX4_sheavesHome_146 : decode cX4_sheavesHome 146 = .ok (.invokestatic 97, 3) := by decide +kernel
theorem dX4_sheavesHome_149 : decode cX4_sheavesHome 149 = .ok (.ireturn, 1) := by decide +kernel
theorem dX4_firstBack_0 : decode cX4_firstBack 0 = .ok (.iconst 0, 1) := by decide +kernel
theorem dX4_firstBack_1 : decode cX4_firstBack 1 = .ok (.istore_n 2, 1) := by decide +kernel
theorem dX4_firstBack_2 : decode cX4_firstBack 2 = .ok (.iconst 1, 1) := by decide +kernel
theorem dX4_firstBack_3 : decode cX4_firstBack 3 = .ok (.istore_n 3, 1) := by decide +kernel
theorem dX4_firstBack_4 : decode cX4_firstBack 4 = .ok (.iload_n 3, 1) := by decide +kernel
theorem dX4_firstBack_5 : decode cX4_firstBack 5 = .ok (.iload_n 1, 1) := by decide +kernel
theorem dX4_firstBack_6 : decode cX4_firstBack 6 = .ok (.if_icmp .ge 35, 3) := by decide +kernel
theorem dX4_firstBack_9 : decode cX4_firstBack 9 = .ok (.iload_n 3, 1) := by decide +kernel
theorem dX4_firstBack_10 : decode cX4_firstBack 10 = .ok (.aload_n 0, 1) := by decide +kernel
theorem dX4_firstBack_11 : decode cX4_firstBack 11 = .ok (.getfield 52, 3) := by decide +kernel
theorem dX4_firstBack_14 : decode cX4_firstBack 14 = .ok (.arraylength, 1) := by decide +kernel
theorem dX4_firstBack_15 : decode cX4_firstBack 15 = .ok (.if_icmp .ge 26, 3) := by decide +kernel
theorem dX4_firstBack_18 : decode cX4_firstBack 18 = .ok (.aload_n 0, 1) := by decide +kernel
theorem dX4_firstBack_19 : decode cX4_firstBack 19 = .ok (.getfield 52, 3) := by decide +kernel
theorem dX4_firstBack_22 : decode cX4_firstBack 22 = .ok (.iload_n 3, 1) := by decide +kernel
theorem dX4_firstBack_23 : decode cX4_firstBack 23 = .ok (.iaload, 1) := by decide +kernel
theorem dX4_firstBack_24 : decode cX4_firstBack 24 = .ok (.aload_n 0, 1) := by decide +kernel
theorem dX4_firstBack_25 : decode cX4_firstBack 25 = .ok (.getfield 52, 3) := by decide +kernel
theorem dX4_firstBack_28 : decode cX4_firstBack 28 = .ok (.iload_n 2, 1) := by decide +kernel
theorem dX4_firstBack_29 : decode cX4_firstBack 29 = .ok (.iaload, 1) := by decide +kernel
theorem dX4_firstBack_30 : decode cX4_firstBack 30 = .ok (.if_icmp .ge 5, 3) := by decide +kernel
theorem dX4_firstBack_33 : decode cX4_firstBack 33 = .ok (.iload_n 3, 1) := by decide +kernel
theorem dX4_firstBack_34 : decode cX4_firstBack 34 = .ok (.istore_n 2, 1) := by decide +kernel
theorem dX4_firstBack_35 : decode cX4_firstBack 35 = .ok (.iinc 3 1, 3) := by decide +kernel
theorem dX4_firstBack_38 : decode cX4_firstBack 38 = .ok (.goto (-34), 3) := by decide +kernel
theorem dX4_firstBack_41 : decode cX4_firstBack 41 = .ok (.iload_n 2, 1) := by decide +kernel
theorem dX4_firstBack_42 : decode cX4_firstBack 42 = .ok (.ireturn, 1) := by decide +kernel
theorem dX5_init_0 : decode cX5_init 0 = .ok (.aload_n 0, 1) := by decide +kernel
theorem dX5_init_1 : decode cX5_init 1 = .ok (.invokespecial 3, 3) := by decide +kernel
theorem dX5_init_4 : decode cX5_init 4 = .ok (.aload_n 0, 1) := by decide +kernel
theorem dX5_init_5 : decode cX5_init 5 = .ok (.bipush 6, 2) := by decide +kernel
theorem dX5_init_7 : decode cX5_init 7 = .ok (.newarray .int, 2) := by decide +kernel
theorem dX5_init_9 : decode cX5_init 9 = .ok (.putfield 9, 3) := by decide +kernel
theorem dX5_init_12 : decode cX5_init 12 = .ok (.aload_n 0, 1) := by decide +kernel
theorem dX5_init_13 : decode cX5_init 13 = .ok (.bipush 6, 2) := by decide +kernel
theorem dX5_init_15 : decode cX5_init 15 = .ok (.newarray .int, 2) := by decide +kernel
theorem dX5_init_17 : decode cX5_init 17 = .ok (.putfield 15, 3) := by decide +kernel
theorem dX5_init_20 : decode cX5_init 20 = .ok (.aload_n 0, 1) := by decide +kernel
theorem dX5_init_21 : decode cX5_init 21 = .ok (.bipush 6, 2) := by decide +kernel
theorem dX5_init_23 : decode cX5_init 23 = .ok (.newarray .int, 2) := by decide +kernel
theorem dX5_init_25 : decode cX5_init 25 = .ok (.putfield 18, 3) := by decide +kernel
theorem dX5_init_28 : decode cX5_init 28 = .ok (.aload_n 0, 1) := by decide +kernel
theorem dX5_init_29 : decode cX5_init 29 = .ok (.iconst 0, 1) := by decide +kernel
theorem dX5_init_30 : decode cX5_init 30 = .ok (.putfield 21, 3) := by decide +kernel
theorem dX5_init_33 : decode cX5_init 33 = .ok (.return_, 1) := by decide +kernel
theorem dX5_become_0 : decode cX5_become 0 = .ok (.aload_n 1, 1) := by decide +kernel
theorem dX5_become_1 : decode cX5_become 1 = .ok (.getfield 9, 3) := by decide +kernel
theorem dX5_become_4 : decode cX5_become 4 = .ok (.iconst 0, 1) := by decide +kernel
theorem dX5_become_5 : decode cX5_become 5 = .ok (.aload_n 0, 1) := by decide +kernel
theorem dX5_become_6 : decode cX5_become 6 = .ok (.getfield 9, 3) := by decide +kernel
theorem dX5_become_9 : decode cX5_become 9 = .ok (.iconst 0, 1) := by decide +kernel
theorem dX5_become_10 : decode cX5_become 10 = .ok (.bipush 6, 2) := by decide +kernel
theorem dX5_become_12 : decode cX5_become 12 = .ok (.invokestatic 25, 3) := by decide +kernel
theorem dX5_become_15 : decode cX5_become 15 = .ok (.aload_n 1, 1) := by decide +kernel
theorem dX5_become_16 : decode cX5_become 16 = .ok (.getfield 15, 3) := by decide +kernel
theorem dX5_become_19 : decode cX5_become 19 = .ok (.iconst 0, 1) := by decide +kernel
theorem dX5_become_20 : decode cX5_become 20 = .ok (.aload_n 0, 1) := by decide +kernel
theorem dX5_become_21 : decode cX5_become 21 = .ok (.getfield 15, 3) := by decide +kernel
theorem dX5_become_24 : decode cX5_become 24 = .ok (.iconst 0, 1) := by decide +kernel
theorem dX5_become_25 : decode cX5_become 25 = .ok (.bipush 6, 2) := by decide +kernel
theorem dX5_become_27 : decode cX5_become 27 = .ok (.invokestatic 25, 3) := by decide +kernel
theorem dX5_become_30 : decode cX5_become 30 = .ok (.aload_n 1, 1) := by decide +kernel
theorem dX5_become_31 : decode cX5_become 31 = .ok (.getfield 18, 3) := by decide +kernel
theorem dX5_become_34 : decode cX5_become 34 = .ok (.iconst 0, 1) := by decide +kernel
theorem dX5_become_35 : decode cX5_become 35 = .ok (.aload_n 0, 1) := by decide +kernel
theorem dX5_become_36 : decode cX5_become 36 = .ok (.getfield 18, 3) := by decide +kernel
theorem dX5_become_39 : decode cX5_become 39 = .ok (.iconst 0, 1) := by decide +kernel
theorem dX5_become_40 : decode cX5_become 40 = .ok (.bipush 6, 2) := by decide +kernel
theorem dX5_become_42 : decode cX5_become 42 = .ok (.invokestatic 25, 3) := by decide +kernel
theorem dX5_become_45 : decode cX5_become 45 = .ok (.aload_n 0, 1) := by decide +kernel
theorem dX5_become_46 : decode cX5_become 46 = .ok (.aload_n 1, 1) := by decide +kernel
theorem dX5_become_47 : decode cX5_become 47 = .ok (.getfield 21, 3) := by decide +kernel
theorem dX5_become_50 : decode cX5_become 50 = .ok (.putfield 21, 3) := by decide +kernel
theorem dX5_become_53 : decode cX5_become 53 = .ok (.return_, 1) := by decide +kernel
theorem dX5_add_0 : decode cX5_add 0 = .ok (.aload_n 0, 1) := by decide +kernel
theorem dX5_add_1 : decode cX5_add 1 = .ok (.getfield 21, 3) := by decide +kernel
theorem dX5_add_4 : decode cX5_add 4 = .ok (.bipush 6, 2) := by decide +kernel
theorem dX5_add_6 : decode cX5_add 6 = .ok (.if_icmp .ge 14, 3) := by decide +kernel
theorem dX5_add_9 : decode cX5_add 9 = .ok (.iload_n 2, 1) := by decide +kernel
theorem dX5_add_10 : decode cX5_add 10 = .ok (.bipush 20, 2) := by decide +kernel
theorem dX5_add_12 : decode cX5_add 12 = .ok (.if_icmp .gt 8, 3) := by decide +kernel
theorem dX5_add_15 : decode cX5_add 15 = .ok (.iload_n 3, 1) := by decide +kernel
theorem dX5_add_16 : decode cX5_add 16 = .ok (.iconst 1, 1) := by decide +kernel
theorem dX5_add_17 : decode cX5_add 17 = .ok (.if_icmp .ge 5, 3) := by decide +kernel
theorem dX5_add_20 : decode cX5_add 20 = .ok (.iconst 0, 1) := by decide +kernel
theorem dX5_add_21 : decode cX5_add 21 = .ok (.ireturn, 1) := by decide +kernel
theorem dX5_add_22 : decode cX5_add 22 = .ok (.aload_n 0, 1) := by decide +kernel
theorem dX5_add_23 : decode cX5_add 23 = .ok (.getfield 9, 3) := by decide +kernel
theorem dX5_add_26 : decode cX5_add 26 = .ok (.aload_n 0, 1) := by decide +kernel
theorem dX5_add_27 : decode cX5_add 27 = .ok (.getfield 21, 3) := by decide +kernel
theorem dX5_add_30 : decode cX5_add 30 = .ok (.iload_n 1, 1) := by decide +kernel
theorem dX5_add_31 : decode cX5_add 31 = .ok (.iastore, 1) := by decide +kernel
theorem dX5_add_32 : decode cX5_add 32 = .ok (.aload_n 0, 1) := by decide +kernel
theorem dX5_add_33 : decode cX5_add 33 = .ok (.getfield 15, 3) := by decide +kernel
theorem dX5_add_36 : decode cX5_add 36 = .ok (.aload_n 0, 1) := by decide +kernel
theorem dX5_add_37 : decode cX5_add 37 = .ok (.getfield 21, 3) := by decide +kernel
theorem dX5_add_40 : decode cX5_add 40 = .ok (.iload_n 2, 1) := by decide +kernel
theorem dX5_add_41 : decode cX5_add 41 = .ok (.iastore, 1) := by decide +kernel
theorem dX5_add_42 : decode cX5_add 42 = .ok (.aload_n 0, 1) := by decide +kernel
theorem dX5_add_43 : decode cX5_add 43 = .ok (.getfield 18, 3) := by decide +kernel
theorem dX5_add_46 : decode cX5_add 46 = .ok (.aload_n 0, 1) := by decide +kernel
theorem dX5_add_47 : decode cX5_add 47 = .ok (.getfield 21, 3) := by decide +kernel
theorem dX5_add_50 : decode cX5_add 50 = .ok (.iload_n 3, 1) := by decide +kernel
theorem dX5_add_51 : decode cX5_add 51 = .ok (.iastore, 1) := by decide +kernel
theorem dX5_add_52 : decode cX5_add 52 = .ok (.aload_n 0, 1) := by decide +kernel
theorem dX5_add_53 : decode cX5_add 53 = .ok (.dup, 1) := by decide +kernel
theorem dX5_add_54 : decode cX5_add 54 = .ok (.getfield 21, 3) := by decide +kernel
theorem dX5_add_57 : decode cX5_add 57 = .ok (.iconst 1, 1) := by decide +kernel
theorem dX5_add_58 : decode cX5_add 58 = .ok (.iadd, 1) := by decide +kernel
theorem dX5_add_59 : decode cX5_add 59 = .ok (.putfield 21, 3) := by decide +kernel
theorem dX5_add_62 : decode cX5_add 62 = .ok (.iconst 1, 1) := by decide +kernel
theorem dX5_add_63 : decode cX5_add 63 = .ok (.ireturn, 1) := by decide +kernel
theorem dX5_allMinutes_0 : decode cX5_allMinutes 0 = .ok (.iconst 0, 1) := by decide +kernel
theorem dX5_allMinutes_1 : decode cX5_allMinutes 1 = .ok (.istore_n 1, 1) := by decide +kernel
theorem dX5_allMinutes_2 : decode cX5_allMinutes 2 = .ok (.iconst 0, 1) := by decide +kernel
theorem dX5_allMinutes_3 : decode cX5_allMinutes 3 = .ok (.istore_n 2, 1) := by decide +kernel
theorem dX5_allMinutes_4 : decode cX5_allMinutes 4 = .ok (.iload_n 2, 1) := by decide +kernel
theorem dX5_allMinutes_5 : decode cX5_allMinutes 5 = .ok (.aload_n 0, 1) := by decide +kernel
theorem dX5_allMinutes_6 : decode cX5_allMinutes 6 = .ok (.getfield 21, 3) := by decide +kernel
theorem dX5_allMinutes_9 : decode cX5_allMinutes 9 = .ok (.if_icmp .ge 18, 3) := by decide +kernel
theorem dX5_allMinutes_12 : decode cX5_allMinutes 12 = .ok (.iload_n 1, 1) := by decide +kernel
theorem dX5_allMinutes_13 : decode cX5_allMinutes 13 = .ok (.aload_n 0, 1) := by decide +kernel
theorem dX5_allMinutes_14 : decode cX5_allMinutes 14 = .ok (.getfield 18, 3) := by decide +kernel
theorem dX5_allMinutes_17 : decode cX5_allMinutes 17 = .ok (.iload_n 2, 1) := by decide +kernel
theorem dX5_allMinutes_18 : decode cX5_allMinutes 18 = .ok (.iaload, 1) := by decide +kernel
theorem dX5_allMinutes_19 : decode cX5_allMinutes 19 = .ok (.iadd, 1) := by decide +kernel
theorem dX5_allMinutes_20 : decode cX5_allMinutes 20 = .ok (.istore_n 1, 1) := by decide +kernel
theorem dX5_allMinutes_21 : decode cX5_allMinutes 21 = .ok (.iinc 2 1, 3) := by decide +kernel
theorem dX5_allMinutes_24 : decode cX5_allMinutes 24 = .ok (.goto (-20), 3) := by decide +kernel
theorem dX5_allMinutes_27 : decode cX5_allMinutes 27 = .ok (.iload_n 1, 1) := by decide +kernel
theorem dX5_allMinutes_28 : decode cX5_allMinutes 28 = .ok (.ireturn, 1) := by decide +kernel
set_option maxRecDepth 20000 in
theorem ggX6_init_X4_init : GoodIn wsX6_init wsX4_init := goodIn_r _ [22, 23, 2, 3, 19, 24, 25, 26, 27, 28, 29, 30, 31, 32, 33, 34, 35, 36, 37, 38, 39, 40, 41, 42, 43, 44, 45, 46, 47, 48, 49, 61, 62, 63, 64, 65, 66, 67, 68, 69, 70, 82, 83, 84, 85] (by decide +kernel) (by decide +kernel)
set_option maxRecDepth 20000 in
theorem gX6_init_X4_init_n9 : GoodIn wsX6_init (wsX4_init) := ggX6_init_X4_init
set_option maxRecDepth 20000 in
theorem ggX6_init_X1_init : GoodIn wsX6_init wsX1_init := goodIn_r _ [51, 52, 2, 3, 53, 54, 55, 78, 79] (by decide +kernel) (by decide +kernel)
set_option maxRecDepth 20000 in
theorem gX6_init_X1_init_n28 : GoodIn wsX6_init (wsX1_init) := ggX6_init_X1_init
set_option maxRecDepth 20000 in
theorem ggX6_init_X3_init : GoodIn wsX6_init wsX3_init := goodIn_r _ [57, 58, 2, 3, 19, 59, 60, 80, 81] (by decide +kernel) (by decide +kernel)
set_option maxRecDepth 20000 in
theorem gX6_init_X3_init_n35 : GoodIn wsX6_init (wsX3_init) := ggX6_init_X3_init
theorem dX6_init_0 : decode cX6_init 0 = .ok (.aload_n 0, 1) := by decide +kernel
theorem dX6_init_1 : decode cX6_init 1 = .ok (.invokespecial 1, 3) := by decide +kernel
theorem dX6_init_4 : decode cX6_init 4 = .ok (.aload_n 0, 1) := by decide +kernel
theorem dX6_init_5 : decode cX6_init 5 = .ok (.new 7, 3) := by decide +kernel
theorem dX6_init_8 : decode cX6_init 8 = .ok (.dup, 1) := by decide +kernel
theorem dX6_init_9 : decode cX6_init 9 = .ok (.invokespecial 9, 3) := by decide +kernel
theorem dX6_init_12 : decode cX6_init 12 = .ok (.putfield 10, 3) := by decide +kernel
theorem dX6_init_15 : decode cX6_init 15 = .ok (.aload_n 0, 1) := by decide +kernel
theorem dX6_init_16 : decode cX6_init 16 = .ok (.new 7, 3) := by decide +kernel
theorem dX6_init_19 : decode cX6_init 19 = .ok (.dup, 1) := by decide +kernel
theorem dX6_init_20 : decode cX6_init 20 = .ok (.invokespecial 9, 3) := by decide +kernel
theorem dX6_init_23 : decode cX6_init 23 = .ok (.putfield 16, 3) := by decide +kernel
theorem dX6_init_26 : decode cX6_init 26 = .ok (.aload_n 0, 1) := by decide +kernel
theorem dX6_init_27 : decode cX6_init 27 = .ok (.new 7, 3) := by decide +kernel
theorem dX6_init_30 : decode cX6_init 30 = .ok (.dup, 1) := by decide +kernel
theorem dX6_init_31 : decode cX6_init 31 = .ok (.invokespecial 9, 3) := by decide +kernel
theorem dX6_init_34 : decode cX6_init 34 = .ok (.putfield 19, 3) := by decide +kernel
theorem dX6_init_37 : decode cX6_init 37 = .ok (.aload_n 0, 1) := by decide +kernel
theorem dX6_init_38 : decode cX6_init 38 = .ok (.iconst 0, 1) := by decide +kernel
theorem dX6_init_39 : decode cX6_init 39 = .ok (.putfield 22, 3) := by decide +kernel
theorem dX6_init_42 : decode cX6_init 42 = .ok (.aload_n 0, 1) := by decide +kernel
theorem dX6_init_43 : decode cX6_init 43 = .ok (.new 26, 3) := by decide +kernel
theorem dX6_init_46 : decode cX6_init 46 = .ok (.dup, 1) := by decide +kernel
theorem dX6_init_47 : decode cX6_init 47 = .ok (.invokespecial 28, 3) := by decide +kernel
theorem dX6_init_50 : decode cX6_init 50 = .ok (.putfield 29, 3) := by decide +kernel
theorem dX6_init_53 : decode cX6_init 53 = .ok (.aload_n 0, 1) := by decide +kernel
theorem dX6_init_54 : decode cX6_init 54 = .ok (.new 33, 3) := by decide +kernel
theorem dX6_init_57 : decode cX6_init 57 = .ok (.dup, 1) := by decide +kernel
theorem dX6_init_58 : decode cX6_init 58 = .ok (.invokespecial 35, 3) := by decide +kernel
theorem dX6_init_61 : decode cX6_init 61 = .ok (.putfield 36, 3) := by decide +kernel
theorem dX6_init_64 : decode cX6_init 64 = .ok (.aload_n 0, 1) := by decide +kernel
theorem dX6_init_65 : decode cX6_init 65 = .ok (.bipush 7, 2) := by decide +kernel
theorem dX6_init_67 : decode cX6_init 67 = .ok (.newarray .int, 2) := by decide +kernel
theorem dX6_init_69 : decode cX6_init 69 = .ok (.putfield 40, 3) := by decide +kernel
theorem dX6_init_72 : decode cX6_init 72 = .ok (.return_, 1) := by decide +kernel
set_option maxRecDepth 20000 in
theorem ggX6_letter_X6_refuse : GoodIn wsX6_letter wsX6_refuse := goodIn_r _ [6, 7, 14, 15, 16, 17, 18, 19, 20] (by decide +kernel) (by decide +kernel)
set_option maxRecDepth 20000 in
theorem gX6_letter_X6_refuse : GoodIn wsX6_letter (wsV RX6 44 RX6 yX6_refuse wsX6_refuse) := goodIn_app (goodIn_of _ (by decide +kernel)) ggX6_letter_X6_refuse
set_option maxRecDepth 20000 in
theorem ggX6_letter_X1_add : GoodIn wsX6_letter wsX1_add := goodIn_r _ [11, 12, 13, 21, 22] (by decide +kernel) (by decide +kernel)
set_option maxRecDepth 20000 in
theorem gX6_letter_X1_add_n52 : GoodIn wsX6_letter (wsX1_add) := ggX6_letter_X1_add
theorem dX6_letter_0 : decode cX6_letter 0 = .ok (.iload_n 1, 1) := by decide +kernel
theorem dX6_letter_1 : decode cX6_letter 1 = .ok (.ifCond .ge 10, 3) := by decide +kernel
theorem dX6_letter_4 : decode cX6_letter 4 = .ok (.aload_n 0, 1) := by decide +kernel
theorem dX6_letter_5 : decode cX6_letter 5 = .ok (.bipush (-4), 2) := by decide +kernel
theorem dX6_letter_7 : decode cX6_letter 7 = .ok (.invokevirtual 44, 3) := by decide +kernel
theorem dX6_letter_10 : decode cX6_letter 10 = .ok (.ireturn, 1) := by decide +kernel
theorem dX6_letter_11 : decode cX6_letter 11 = .ok (.iload_n 1, 1) := by decide +kernel
theorem dX6_letter_12 : decode cX6_letter 12 = .ok (.sipush 255, 3) := by decide +kernel
theorem dX6_letter_15 : decode cX6_letter 15 = .ok (.if_icmp .gt 15, 3) := by decide +kernel
theorem dX6_letter_18 : decode cX6_letter 18 = .ok (.aload_n 0, 1) := by decide +kernel
theorem dX6_letter_19 : decode cX6_letter 19 = .ok (.getfield 29, 3) := by decide +kernel
theorem dX6_letter_22 : decode cX6_letter 22 = .ok (.getfield 48, 3) := by decide +kernel
theorem dX6_letter_25 : decode cX6_letter 25 = .ok (.bipush 96, 2) := by decide +kernel
theorem dX6_letter_27 : decode cX6_letter 27 = .ok (.if_icmp .lt 10, 3) := by decide +kernel
theorem dX6_letter_30 : decode cX6_letter 30 = .ok (.aload_n 0, 1) := by decide +kernel
theorem dX6_letter_31 : decode cX6_letter 31 = .ok (.bipush (-6), 2) := by decide +kernel
theorem dX6_letter_33 : decode cX6_letter 33 = .ok (.invokevirtual 44, 3) := by decide +kernel
theorem dX6_letter_36 : decode cX6_letter 36 = .ok (.ireturn, 1) := by decide +kernel
theorem dX6_letter_37 : decode cX6_letter 37 = .ok (.aload_n 0, 1) := by decide +kernel
theorem dX6_letter_38 : decode cX6_letter 38 = .ok (.getfield 29, 3) := by decide +kernel
theorem dX6_letter_41 : decode cX6_letter 41 = .ok (.iload_n 1, 1) := by decide +kernel
theorem dX6_letter_42 : decode cX6_letter 42 = .ok (.i2c, 1) := by decide +kernel
theorem dX6_letter_43 : decode cX6_letter 43 = .ok (.invokevirtual 52, 3) := by decide +kernel
theorem dX6_letter_46 : decode cX6_letter 46 = .ok (.aload_n 0, 1) := by decide +kernel
theorem dX6_letter_47 : decode cX6_letter 47 = .ok (.getfield 29, 3) := by decide +kernel
theorem dX6_letter_50 : decode cX6_letter 50 = .ok (.getfield 48, 3) := by decide +kernel
theorem dX6_letter_53 : decode cX6_letter 53 = .ok (.ireturn, 1) := by decide +kernel
set_option maxRecDepth 20000 in
theorem ggX6_load_X1_firstOutOfForm : GoodIn wsX6_load wsX1_firstOutOfForm := goodIn_r _ [5, 6, 7, 8, 9, 10, 11, 12, 13, 14, 15, 16, 17, 18, 19, 20, 21, 3, 22, 23, 24, 25, 26, 27, 28, 29, 30, 31, 32, 33, 34, 35, 36, 37, 38, 39, 40, 41, 42, 43, 44, 45, 46, 47, 48, 49, 50, 51, 52, 53, 54, 55, 56, 57, 58, 59, 60, 61, 62, 63, 64, 65, 66, 67, 68, 69, 70, 71, 72, 73, 74, 75, 76, 77, 78, 79, 80, 81, 82, 83, 84, 85, 86, 87, 88, 89, 90, 91, 92, 93, 94, 95, 96, 97, 98, 99, 100, 101, 102, 103, 104, 105, 106, 107, 108, 109, 110, 111, 112, 113, 114, 115, 116, 117, 118, 119, 120, 121, 122, 123, 124, 125, 126, 127, 128, 129, 130, 131, 132, 133, 134, 135, 136, 137, 138, 139, 140, 141, 142, 143, 144, 238, 239] (by decide +kernel) (by decide +kernel)
set_option maxRecDepth 20000 in
theorem gX6_load_X1_firstOutOfForm_n56 : GoodIn wsX6_load (wsX1_firstOutOfForm) := ggX6_load_X1_firstOutOfForm
set_option maxRecDepth 20000 in
theorem ggX6_load_X6_readStatements : GoodIn wsX6_load wsX6_readStatements := goodIn_r _ [149, 150, 151, 1, 152, 153, 154, 155, 156, 157, 158, 159, 160, 161, 162, 163, 164, 165, 166, 167, 168, 169, 170, 171, 172, 173, 174, 175, 176, 177, 20, 3, 21, 22, 6, 23, 178, 179, 180, 148, 181, 182, 183, 184, 185, 186, 187, 188, 19, 142, 143, 144, 74, 75, 76, 77, 78, 79, 10, 80, 81, 82, 83, 84, 12, 38, 39, 40, 41, 17, 18, 85, 8, 9, 11, 13, 14, 15, 16, 86, 87, 44, 88, 89, 90, 91, 92, 93, 94, 95, 96, 97, 98, 99, 100, 101, 102, 103, 56, 104, 105, 106, 107, 108, 109, 110, 111, 112, 113, 61, 62, 63, 114, 115, 116, 49, 117, 118, 52, 119, 120, 121, 122, 65, 66, 67, 68, 69, 70, 123, 124, 125, 126, 127, 128, 129, 130, 131, 132, 133, 134, 135, 136, 137, 189, 190, 191, 192, 193, 194, 195, 196, 197, 198, 199, 200, 201, 202, 203, 204, 205, 206, 207, 208, 209, 210, 211, 212, 213, 214, 215, 216, 217, 218, 138, 139, 140, 141, 219, 220, 221, 222, 223, 224, 225, 226, 227, 231, 232, 233, 234, 235, 236, 237, 238, 239, 240, 241, 242, 243, 244, 245, 246, 247, 248, 249, 250, 251, 252, 253] (by decide +kernel) (by decide +kernel)
set_option maxRecDepth 20000 in
theorem gX6_load_X6_readStatements : GoodIn wsX6_load (wsV RX6 60 RX6 yX6_readStatements wsX6_readStatements) := goodIn_app (goodIn_of _ (by decide +kernel)) ggX6_load_X6_readStatements
set_option maxRecDepth 20000 in
theorem ggX6_load_X1_clear : GoodIn wsX6_load wsX1_clear := goodIn_r _ [230, 6, 238, 239] (by decide +kernel) (by decide +kernel)
set_option maxRecDepth 20000 in
theorem gX6_load_X1_clear_n63 : GoodIn wsX6_load (wsX1_clear) := ggX6_load_X1_clear
theorem dX6_load_0 : decode cX6_load 0 = .ok (.aload_n 0, 1) := by decide +kernel
theorem dX6_load_1 : decode cX6_load 1 = .ok (.getfield 29, 3) := by decide +kernel
theorem dX6_load_4 : decode cX6_load 4 = .ok (.invokevirtual 56, 3) := by decide +kernel
theorem dX6_load_7 : decode cX6_load 7 = .ok (.istore_n 1, 1) := by decide +kernel
theorem dX6_load_8 : decode cX6_load 8 = .ok (.iload_n 1, 1) := by decide +kernel
theorem dX6_load_9 : decode cX6_load 9 = .ok (.ifCond .lt 11, 3) := by decide +kernel
theorem dX6_load_12 : decode cX6_load 12 = .ok (.sipush (-1000), 3) := by decide +kernel
theorem dX6_load_15 : decode cX6_load 15 = .ok (.iload_n 1, 1) := by decide +kernel
theorem dX6_load_16 : decode cX6_load 16 = .ok (.isub, 1) := by decide +kernel
theorem dX6_load_17 : decode cX6_load 17 = .ok (.goto 7, 3) := by decide +kernel
theorem dX6_load_20 : decode cX6_load 20 = .ok (.aload_n 0, 1) := by decide +kernel
theorem dX6_load_21 : decode cX6_load 21 = .ok (.invokevirtual 60, 3) := by decide +kernel
theorem dX6_load_24 : decode cX6_load 24 = .ok (.istore_n 2, 1) := by decide +kernel
theorem dX6_load_25 : decode cX6_load 25 = .ok (.aload_n 0, 1) := by decide +kernel
theorem dX6_load_26 : decode cX6_load 26 = .ok (.getfield 29, 3) := by decide +kernel
theorem dX6_load_29 : decode cX6_load 29 = .ok (.invokevirtual 63, 3) := by decide +kernel
theorem dX6_load_32 : decode cX6_load 32 = .ok (.iload_n 2, 1) := by decide +kernel
theorem dX6_load_33 : decode cX6_load 33 = .ok (.ireturn, 1) := by decide +kernel
set_option maxRecDepth 20000 in
theorem ggX6_readStatements_X4_become : GoodIn wsX6_readStatements wsX4_become := goodIn_r _ [7, 8, 9, 10, 11, 12, 13, 14, 15, 16, 17, 18, 19, 20, 21, 22, 23, 24, 25, 26, 27, 28, 29, 196, 197, 198, 199, 200, 201, 202, 203, 204, 205, 206, 207, 208, 209] (by decide +kernel) (by decide +kernel)
set_option maxRecDepth 20000 in
theorem gX6_readStatements_X4_become_n66 : GoodIn wsX6_readStatements (wsX4_become) := ggX6_readStatements_X4_become
set_option maxRecDepth 20000 in
theorem ggX6_readStatements_X1_at : GoodIn wsX6_readStatements wsX1_at := goodIn_r _ [33, 34, 35, 194, 195] (by decide +kernel) (by decide +kernel)
set_option maxRecDepth 20000 in
theorem gX6_readStatements_X1_at_n70 : GoodIn wsX6_readStatements (wsX1_at) := ggX6_readStatements_X1_at
set_option maxRecDepth 20000 in
theorem ggX6_readStatements_X6_readStatement : GoodIn wsX6_readStatements wsX6_readStatement := goodIn_r _ [40, 3, 1, 30, 31, 32, 33, 34, 35, 41, 42, 43, 39, 44, 45, 46, 47, 48, 49, 50, 51, 52, 53, 54, 55, 56, 57, 58, 59, 60, 61, 62, 63, 64, 65, 66, 67, 68, 69, 70, 71, 72, 73, 74, 75, 76, 77, 78, 79, 80, 81, 82, 83, 84, 85, 86, 87, 88, 89, 90, 91, 92, 93, 94, 95, 96, 97, 98, 99, 100, 101, 102, 103, 104, 105, 106, 107, 108, 109, 110, 111, 112, 113, 114, 115, 116, 117, 118, 119, 120, 121, 122, 123, 124, 125, 126, 127, 128, 129, 130, 131, 132, 133, 134, 135, 136, 137, 138, 139, 140, 141, 142, 143, 144, 145, 146, 147, 148, 5, 149, 150, 18, 151, 152, 153, 8, 13, 14, 15, 16, 17, 154, 155, 156, 157, 158, 159, 160, 161, 162, 163, 164, 165, 166, 167, 168, 169, 170, 171, 172, 173, 20, 174, 175, 176, 177, 178, 22, 179, 180, 29, 25, 27, 28, 181, 182, 183, 19, 184, 185, 186, 187, 188, 189, 190, 191, 192, 193, 194, 195, 196, 197, 198, 199, 200, 201, 202, 203, 204, 205, 206, 207, 208, 209] (by decide +kernel) (by decide +kernel)
set_option maxRecDepth 20000 in
theorem gX6_readStatements_X6_readStatement : GoodIn wsX6_readStatements (wsV RX6 74 RX6 yX6_readStatement wsX6_readStatement) := goodIn_app (goodIn_of _ (by decide +kernel)) ggX6_readStatements_X6_readStatement
theorem dX6_readStatements_0 : decode cX6_readStatements 0 = .ok (.aload_n 0, 1) := by decide +kernel
theorem dX6_readStatements_1 : decode cX6_readStatements 1 = .ok (.getfield 16, 3) := by decide +kernel
theorem dX6_readStatements_4 : decode cX6_readStatements 4 = .ok (.aload_n 0, 1) := by decide +kernel
theorem dX6_readStatements_5 : decode cX6_readStatements 5 = .ok (.getfield 10, 3) := by decide +kernel
theorem dX6_readStatements_8 : decode cX6_readStatements 8 = .ok (.invokevirtual 66, 3) := by decide +kernel
theorem dX6_readStatements_11 : decode cX6_readStatements 11 = .ok (.iconst 0, 1) := by decide +kernel
theorem dX6_readStatements_12 : decode cX6_readStatements 12 = .ok (.istore_n 1, 1) := by decide +kernel
theorem dX6_readStatements_13 : decode cX6_readStatements 13 = .ok (.iconst 0, 1) := by decide +kernel
theorem dX6_readStatements_14 : decode cX6_readStatements 14 = .ok (.istore_n 2, 1) := by decide +kernel
theorem dX6_readStatements_15 : decode cX6_readStatements 15 = .ok (.iconst 0, 1) := by decide +kernel
theorem dX6_readStatements_16 : decode cX6_readStatements 16 = .ok (.istore_n 3, 1) := by decide +kernel
theorem dX6_readStatements_17 : decode cX6_readStatements 17 = .ok (.iload_n 3, 1) := by decide +kernel
theorem dX6_readStatements_18 : decode cX6_readStatements 18 = .ok (.aload_n 0, 1) := by decide +kernel
theorem dX6_readStatements_19 : decode cX6_readStatements 19 = .ok (.getfield 29, 3) := by decide +kernel
theorem dX6_readStatements_22 : decode cX6_readStatements 22 = .ok (.getfield 48, 3) := by decide +kernel
theorem dX6_readStatements_25 : decode cX6_readStatements 25 = .ok (.if_icmp .ge 43, 3) := by decide +kernel
theorem dX6_readStatements_28 : decode cX6_readStatements 28 = .ok (.aload_n 0, 1) := by decide +kernel
theorem dX6_readStatements_29 : decode cX6_readStatements 29 = .ok (.getfield 29, 3) := by decide +kernel
theorem dX6_readStatements_32 : decode cX6_readStatements 32 = .ok (.iload_n 3, 1) := by decide +kernel
theorem dX6_readStatements_33 : decode cX6_readStatements 33 = .ok (.invokevirtual 70, 3) := by decide +kernel
theorem dX6_readStatements_36 : decode cX6_readStatements 36 = .ok (.bipush 59, 2) := by decide +kernel
theorem dX6_readStatements_38 : decode cX6_readStatements 38 = .ok (.if_icmp .ne 24, 3) := by decide +kernel
theorem dX6_readStatements_41 : decode cX6_readStatements 41 = .ok (.aload_n 0, 1) := by decide +kernel
theorem dX6_readStatements_42 : decode cX6_readStatements 42 = .ok (.iload_n 2, 1) := by decide +kernel
theorem dX6_readStatements_43 : decode cX6_readStatements 43 = .ok (.invokevirtual 74, 3) := by decide +kernel
theorem dX6_readStatements_46 : decode cX6_readStatements 46 = .ok (.ifCond .ne 9, 3) := by decide +kernel
theorem dX6_readStatements_49 : decode cX6_readStatements 49 = .ok (.sipush (-2000), 3) := by decide +kernel
theorem dX6_readStatements_52 : decode cX6_readStatements 52 = .ok (.iload_n 2, 1) := by decide +kernel
theorem dX6_readStatements_53 : decode cX6_readStatements 53 = .ok (.isub, 1) := by decide +kernel
theorem dX6_readStatements_54 : decode cX6_readStatements 54 = .ok (.ireturn, 1) := by decide +kernel
theorem dX6_readStatements_55 : decode cX6_readStatements 55 = .ok (.iinc 1 1, 3) := by decide +kernel
theorem dX6_readStatements_58 : decode cX6_readStatements 58 = .ok (.iload_n 3, 1) := by decide +kernel
theorem dX6_readStatements_59 : decode cX6_readStatements 59 = .ok (.iconst 1, 1) := by decide +kernel
theorem dX6_readStatements_60 : decode cX6_readStatements 60 = .ok (.iadd, 1) := by decide +kernel
theorem dX6_readStatements_61 : decode cX6_readStatements 61 = .ok (.istore_n 2, 1) := by decide +kernel
theorem dX6_readStatements_62 : decode cX6_readStatements 62 = .ok (.iinc 3 1, 3) := by decide +kernel
theorem dX6_readStatements_65 : decode cX6_readStatements 65 = .ok (.goto (-48), 3) := by decide +kernel
theorem dX6_readStatements_68 : decode cX6_readStatements 68 = .ok (.aload_n 0, 1) := by decide +kernel
theorem dX6_readStatements_69 : decode cX6_readStatements 69 = .ok (.getfield 10, 3) := by decide +kernel
theorem dX6_readStatements_72 : decode cX6_readStatements 72 = .ok (.aload_n 0, 1) := by decide +kernel
theorem dX6_readStatements_73 : decode cX6_readStatements 73 = .ok (.getfield 16, 3) := by decide +kernel
theorem dX6_readStatements_76 : decode cX6_readStatements 76 = .ok (.invokevirtual 66, 3) := by decide +kernel
theorem dX6_readStatements_79 : decode cX6_readStatements 79 = .ok (.iload_n 1, 1) := by decide +kernel
theorem dX6_readStatements_80 : decode cX6_readStatements 80 = .ok (.ireturn, 1) := by decide +kernel
set_option maxRecDepth 20000 in
theorem ggX6_readStatement_X1_at : GoodIn wsX6_readStatement wsX1_at := goodIn_r _ [6, 7, 8, 178, 179] (by decide +kernel) (by decide +kernel)
set_option maxRecDepth 20000 in
theorem gX6_readStatement_X1_at_n70 : GoodIn wsX6_readStatement (wsX1_at) := ggX6_readStatement_X1_at
set_option maxRecDepth 20000 in
theorem ggX6_readStatement_X6_readLayer : GoodIn wsX6_readStatement wsX6_readLayer := goodIn_r _ [13, 1, 2, 14, 4, 15, 16, 17, 3, 5, 6, 7, 8, 18, 19, 20, 21, 22, 23, 24, 25, 26, 27, 28, 29, 30, 31, 32, 33, 34, 35, 36, 37, 38, 39, 40, 41, 42, 43, 44, 45, 46, 47, 48, 49, 50, 51, 52, 53, 54, 55, 56, 57, 58, 59, 60, 61, 62, 63, 64, 65, 66, 67, 68, 69, 70, 71, 72, 73, 74, 75, 76, 77, 78, 79, 80, 81, 82, 83, 84, 85, 86, 87, 88, 89, 90, 91, 92, 93, 94, 95, 96, 97, 98, 99, 100, 101, 102, 103, 104, 105, 106, 107, 108, 109, 110, 111, 112, 113, 114, 115, 116, 117, 118, 119, 120, 121, 122, 123, 124, 125, 126, 127, 128, 129, 130, 131, 132, 133, 134, 135, 136, 137, 138, 139, 140, 141, 142, 143, 171, 172, 173, 174, 175, 176, 177, 180, 181, 182, 183, 184, 185, 186, 187, 188, 189, 178, 179] (by decide +kernel) (by decide +kernel)
set_option maxRecDepth 20000 in
theorem gX6_readStatement_X6_readLayer : GoodIn wsX6_readStatement (wsV RX6 78 RX6 yX6_readLayer wsX6_readLayer) := goodIn_app (goodIn_of _ (by decide +kernel)) ggX6_readStatement_X6_readLayer
set_option maxRecDepth 20000 in
theorem ggX6_readStatement_X6_readPiece : GoodIn wsX6_readStatement wsX6_readPiece := goodIn_r _ [147, 1, 2, 14, 4, 15, 16, 17, 3, 5, 6, 7, 8, 18, 19, 20, 148, 118, 149, 150, 151, 152, 153, 154, 155, 25, 26, 27, 28, 29, 30, 31, 32, 33, 34, 35, 36, 37, 38, 39, 40, 41, 42, 43, 44, 45, 46, 47, 48, 49, 50, 51, 52, 53, 54, 55, 56, 57, 58, 59, 60, 61, 62, 63, 64, 65, 66, 67, 68, 69, 70, 71, 72, 73, 74, 75, 76, 77, 78, 79, 80, 81, 82, 83, 84, 85, 86, 87, 88, 89, 90, 91, 92, 93, 94, 95, 96, 97, 98, 99, 100, 101, 102, 103, 104, 105, 106, 107, 108, 109, 110, 111, 112, 113, 114, 115, 116, 156, 157, 158, 159, 160, 161, 162, 163, 171, 172, 173, 174, 175, 176, 177, 180, 181, 182, 183, 184, 185, 186, 187, 188, 189, 178, 179, 190, 191, 192, 193] (by decide +kernel) (by decide +kernel)
set_option maxRecDepth 20000 in
theorem gX6_readStatement_X6_readPiece : GoodIn wsX6_readStatement (wsV RX6 81 RX6 yX6_readPiece wsX6_readPiece) := goodIn_app (goodIn_of _ (by decide +kernel)) ggX6_readStatement_X6_readPiece
set_option maxRecDepth 20000 in
theorem ggX6_readStatement_X1_digit : GoodIn wsX6_readStatement wsX1_digit := goodIn_r _ [16, 17, 3, 5, 4, 6, 7, 8, 18, 19, 20, 178, 179] (by decide +kernel) (by decide +kernel)
set_option maxRecDepth 20000 in
theorem gX6_readStatement_X1_digit_n84 : GoodIn wsX6_readStatement (wsX1_digit) := ggX6_readStatement_X1_digit
set_option maxRecDepth 20000 in
theorem ggX6_readStatement_X4_turn : GoodIn wsX6_readStatement wsX4_turn := goodIn_r _ [166, 167, 180, 181, 182, 183, 184, 185, 186, 187, 188, 189] (by decide +kernel) (by decide +kernel)
set_option maxRecDepth 20000 in
theorem gX6_readStatement_X4_turn_n87 : GoodIn wsX6_readStatement (wsX4_turn) := ggX6_readStatement_X4_turn
set_option maxRecDepth 20000 in
theorem ggX6_readStatement_X1_number : GoodIn wsX6_readStatement wsX1_number := goodIn_r _ [115, 17, 3, 5, 4, 6, 7, 8, 18, 19, 20, 116, 14, 15, 16, 178, 179] (by decide +kernel) (by decide +kernel)
set_option maxRecDepth 20000 in
theorem gX6_readStatement_X1_number_n91 : GoodIn wsX6_readStatement (wsX1_number) := ggX6_readStatement_X1_number
set_option maxRecDepth 20000 in
theorem ggX6_readStatement_X4_takeTop : GoodIn wsX6_readStatement wsX4_takeTop := goodIn_r _ [170, 121, 134, 135, 136, 118, 137, 125, 126, 138, 22, 139, 140, 141, 142, 143, 130, 180, 181, 182, 183, 184, 185, 186, 187, 188, 189] (by decide +kernel) (by decide +kernel)
set_option maxRecDepth 20000 in
theorem gX6_readStatement_X4_takeTop_n95 : GoodIn wsX6_readStatement (wsX4_takeTop) := ggX6_readStatement_X4_takeTop
theorem dX6_readStatement_0 : decode cX6_readStatement 0 = .ok (.aload_n 0, 1) := by decide +kernel
theorem dX6_readStatement_1 : decode cX6_readStatement 1 = .ok (.getfield 29, 3) := by decide +kernel
theorem dX6_readStatement_4 : decode cX6_readStatement 4 = .ok (.iload_n 1, 1) := by decide +kernel
theorem dX6_readStatement_5 : decode cX6_readStatement 5 = .ok (.invokevirtual 70, 3) := by decide +kernel
theorem dX6_readStatement_8 : decode cX6_readStatement 8 = .ok (.tableswitch 203 102 121 #[175, 203, 203, 203, 203, 127, 203, 203, 203, 203, 203, 203, 108, 203, 203, 195, 203, 102, 203, 96], 96) := by decide +kernel
theorem dX6_readStatement_104 : decode cX6_readStatement 104 = .ok (.aload_n 0, 1) := by decide +kernel
theorem dX6_readStatement_105 : decode cX6_readStatement 105 = .ok (.iload_n 1, 1) := by decide +kernel
theorem dX6_readStatement_106 : decode cX6_readStatement 106 = .ok (.invokevirtual 78, 3) := by decide +kernel
theorem dX6_readStatement_109 : decode cX6_readStatement 109 = .ok (.ireturn, 1) := by decide +kernel
theorem dX6_readStatement_110 : decode cX6_readStatement 110 = .ok (.aload_n 0, 1) := by decide +kernel
theorem dX6_readStatement_111 : decode cX6_readStatement 111 = .ok (.iload_n 1, 1) := by decide +kernel
theorem dX6_readStatement_112 : decode cX6_readStatement 112 = .ok (.invokevirtual 81, 3) := by decide +kernel
theorem dX6_readStatement_115 : decode cX6_readStatement 115 = .ok (.ireturn, 1) := by decide +kernel
theorem dX6_readStatement_116 : decode cX6_readStatement 116 = .ok (.aload_n 0, 1) := by decide +kernel
theorem dX6_readStatement_117 : decode cX6_readStatement 117 = .ok (.getfield 16, 3) := by decide +kernel
theorem dX6_readStatement_120 : decode cX6_readStatement 120 = .ok (.iconst 0, 1) := by decide +kernel
theorem dX6_readStatement_121 : decode cX6_readStatement 121 = .ok (.aload_n 0, 1) := by decide +kernel
theorem dX6_readStatement_122 : decode cX6_readStatement 122 = .ok (.getfield 29, 3) := by decide +kernel
theorem dX6_readStatement_125 : decode cX6_readStatement 125 = .ok (.iload_n 1, 1) := by decide +kernel
theorem dX6_readStatement_126 : decode cX6_readStatement 126 = .ok (.iconst 1, 1) := by decide +kernel
theorem dX6_readStatement_127 : decode cX6_readStatement 127 = .ok (.iadd, 1) := by decide +kernel
theorem dX6_readStatement_128 : decode cX6_readStatement 128 = .ok (.invokevirtual 84, 3) := by decide +kernel
theorem dX6_readStatement_131 : decode cX6_readStatement 131 = .ok (.invokevirtual 87, 3) := by decide +kernel
theorem dX6_readStatement_134 : decode cX6_readStatement 134 = .ok (.ireturn, 1) := by decide +kernel
theorem dX6_readStatement_135 : decode cX6_readStatement 135 = .ok (.aload_n 0, 1) := by decide +kernel
theorem dX6_readStatement_136 : decode cX6_readStatement 136 = .ok (.getfield 16, 3) := by decide +kernel
theorem dX6_readStatement_139 : decode cX6_readStatement 139 = .ok (.iconst 1, 1) := by decide +kernel
theorem dX6_readStatement_140 : decode cX6_readStatement 140 = .ok (.aload_n 0, 1) := by decide +kernel
theorem dX6_readStatement_141 : decode cX6_readStatement 141 = .ok (.getfield 29, 3) := by decide +kernel
theorem dX6_readStatement_144 : decode cX6_readStatement 144 = .ok (.iload_n 1, 1) := by decide +kernel
theorem dX6_readStatement_145 : decode cX6_readStatement 145 = .ok (.iconst 1, 1) := by decide +kernel
theorem dX6_readStatement_146 : decode cX6_readStatement 146 = .ok (.iadd, 1) := by decide +kernel
theorem dX6_readStatement_147 : decode cX6_readStatement 147 = .ok (.invokevirtual 84, 3) := by decide +kernel
theorem dX6_readStatement_150 : decode cX6_readStatement 150 = .ok (.invokevirtual 87, 3) := by decide +kernel
theorem dX6_readStatement_153 : decode cX6_readStatement 153 = .ok (.ifCond .eq 28, 3) := by decide +kernel
theorem dX6_readStatement_156 : decode cX6_readStatement 156 = .ok (.aload_n 0, 1) := by decide +kernel
theorem dX6_readStatement_157 : decode cX6_readStatement 157 = .ok (.getfield 16, 3) := by decide +kernel
theorem dX6_readStatement_160 : decode cX6_readStatement 160 = .ok (.iconst 2, 1) := by decide +kernel
theorem dX6_readStatement_161 : decode cX6_readStatement 161 = .ok (.aload_n 0, 1) := by decide +kernel
theorem dX6_readStatement_162 : decode cX6_readStatement 162 = .ok (.getfield 29, 3) := by decide +kernel
theorem dX6_readStatement_165 : decode cX6_readStatement 165 = .ok (.iload_n 1, 1) := by decide +kernel
theorem dX6_readStatement_166 : decode cX6_readStatement 166 = .ok (.iconst 2, 1) := by decide +kernel
theorem dX6_readStatement_167 : decode cX6_readStatement 167 = .ok (.iadd, 1) := by decide +kernel
theorem dX6_readStatement_168 : decode cX6_readStatement 168 = .ok (.invokevirtual 84, 3) := by decide +kernel
theorem dX6_readStatement_171 : decode cX6_readStatement 171 = .ok (.invokevirtual 87, 3) := by decide +kernel
theorem dX6_readStatement_174 : decode cX6_readStatement 174 = .ok (.ifCond .eq 7, 3) := by decide +kernel
theorem dX6_readStatement_177 : decode cX6_readStatement 177 = .ok (.iconst 1, 1) := by decide +kernel
theorem dX6_readStatement_178 : decode cX6_readStatement 178 = .ok (.goto 4, 3) := by decide +kernel
theorem dX6_readStatement_181 : decode cX6_readStatement 181 = .ok (.iconst 0, 1) := by decide +kernel
theorem dX6_readStatement_182 : decode cX6_readStatement 182 = .ok (.ireturn, 1) := by decide +kernel
theorem dX6_readStatement_183 : decode cX6_readStatement 183 = .ok (.aload_n 0, 1) := by decide +kernel
theorem dX6_readStatement_184 : decode cX6_readStatement 184 = .ok (.getfield 16, 3) := by decide +kernel
theorem dX6_readStatement_187 : decode cX6_readStatement 187 = .ok (.iconst 3, 1) := by decide +kernel
theorem dX6_readStatement_188 : decode cX6_readStatement 188 = .ok (.aload_n 0, 1) := by decide +kernel
theorem dX6_readStatement_189 : decode cX6_readStatement 189 = .ok (.getfield 29, 3) := by decide +kernel
theorem dX6_readStatement_192 : decode cX6_readStatement 192 = .ok (.iload_n 1, 1) := by decide +kernel
theorem dX6_readStatement_193 : decode cX6_readStatement 193 = .ok (.iconst 1, 1) := by decide +kernel
theorem dX6_readStatement_194 : decode cX6_readStatement 194 = .ok (.iadd, 1) := by decide +kernel
theorem dX6_readStatement_195 : decode cX6_readStatement 195 = .ok (.iconst 3, 1) := by decide +kernel
theorem dX6_readStatement_196 : decode cX6_readStatement 196 = .ok (.invokevirtual 91, 3) := by decide +kernel
theorem dX6_readStatement_199 : decode cX6_readStatement 199 = .ok (.invokevirtual 87, 3) := by decide +kernel
theorem dX6_readStatement_202 : decode cX6_readStatement 202 = .ok (.ireturn, 1) := by decide +kernel
theorem dX6_readStatement_203 : decode cX6_readStatement 203 = .ok (.aload_n 0, 1) := by decide +kernel
theorem dX6_readStatement_204 : decode cX6_readStatement 204 = .ok (.getfield 16, 3) := by decide +kernel
theorem dX6_readStatement_207 : decode cX6_readStatement 207 = .ok (.invokevirtual 95, 3) := by decide +kernel
theorem dX6_readStatement_210 : decode cX6_readStatement 210 = .ok (.ireturn, 1) := by decide +kernel
theorem dX6_readStatement_211 : decode cX6_readStatement 211 = .ok (.iconst 0, 1) := by decide +kernel
theorem dX6_readStatement_212 : decode cX6_readStatement 212 = .ok (.ireturn, 1) := by decide +kernel
set_option maxRecDepth 20000 in
theorem ggX6_readLayer_X1_digit : GoodIn wsX6_readLayer wsX1_digit := goodIn_r _ [6, 7, 8, 9, 4, 10, 11, 12, 13, 14, 15, 156, 157] (by decide +kernel) (by decide +kernel)
set_option maxRecDepth 20000 in
theorem gX6_readLayer_X1_digit_n84 : GoodIn wsX6_readLayer (wsX1_digit) := ggX6_readLayer_X1_digit
set_option maxRecDepth 20000 in
theorem ggX6_readLayer_X1_at : GoodIn wsX6_readLayer wsX1_at := goodIn_r _ [10, 11, 12, 156, 157] (by decide +kernel) (by decide +kernel)
set_option maxRecDepth 20000 in
theorem gX6_readLayer_X1_at_n70 : GoodIn wsX6_readLayer (wsX1_at) := ggX6_readLayer_X1_at
set_option maxRecDepth 20000 in
theorem ggX6_readLayer_X0_of : GoodIn wsX6_readLayer wsX0_of := goodIn_r _ [18, 19, 20, 21, 22, 23, 24, 25, 26, 27, 28, 29, 30, 31, 32, 33, 34, 35, 36, 37, 38, 39, 40, 41, 42, 43, 44, 45, 46, 47, 48, 49, 50, 51, 52, 53, 54, 55, 56, 57, 58, 59, 60, 61, 62, 63, 64, 65, 66, 67, 68, 69, 70, 71, 72, 73, 74, 75, 76, 77, 78, 79, 80, 81, 82, 83, 84, 85, 86, 87, 88, 89, 90, 91, 92, 93, 94, 95, 96, 97, 98, 99, 100, 101, 102, 103, 104, 105, 106, 107] (by decide +kernel) (by decide +kernel)
set_option maxRecDepth 20000 in
theorem gX6_readLayer_X0_of_n102 : GoodIn wsX6_readLayer (wsX0_of) := ggX6_readLayer_X0_of
set_option maxRecDepth 20000 in
theorem ggX6_readLayer_X1_number : GoodIn wsX6_readLayer wsX1_number := goodIn_r _ [110, 7, 8, 9, 4, 10, 11, 12, 13, 14, 15, 111, 3, 5, 6, 156, 157] (by decide +kernel) (by decide +kernel)
set_option maxRecDepth 20000 in
theorem gX6_readLayer_X1_number_n91 : GoodIn wsX6_readLayer (wsX1_number) := ggX6_readLayer_X1_number
set_option maxRecDepth 20000 in
theorem ggX6_readLayer_X4_lay : GoodIn wsX6_readLayer wsX4_lay := goodIn_r _ [115, 116, 117, 118, 49, 119, 120, 121, 122, 123, 124, 125, 126, 17, 127, 128, 48, 50, 129, 130, 131, 113, 132, 133, 134, 135, 136, 137, 138, 146, 147, 148, 149, 150, 151, 152, 153, 154, 155] (by decide +kernel) (by decide +kernel)
set_option maxRecDepth 20000 in
theorem gX6_readLayer_X4_lay_n108 : GoodIn wsX6_readLayer (wsX4_lay) := ggX6_readLayer_X4_lay
theorem dX6_readLayer_0 : decode cX6_readLayer 0 = .ok (.aload_n 0, 1) := by decide +kernel
theorem dX6_readLayer_1 : decode cX6_readLayer 1 = .ok (.getfield 29, 3) := by decide +kernel
theorem dX6_readLayer_4 : decode cX6_readLayer 4 = .ok (.iload_n 1, 1) := by decide +kernel
theorem dX6_readLayer_5 : decode cX6_readLayer 5 = .ok (.bipush 6, 2) := by decide +kernel
theorem dX6_readLayer_7 : decode cX6_readLayer 7 = .ok (.iadd, 1) := by decide +kernel
theorem dX6_readLayer_8 : decode cX6_readLayer 8 = .ok (.invokevirtual 84, 3) := by decide +kernel
theorem dX6_readLayer_11 : decode cX6_readLayer 11 = .ok (.istore_n 2, 1) := by decide +kernel
theorem dX6_readLayer_12 : decode cX6_readLayer 12 = .ok (.aload_n 0, 1) := by decide +kernel
theorem dX6_readLayer_13 : decode cX6_readLayer 13 = .ok (.getfield 29, 3) := by decide +kernel
theorem dX6_readLayer_16 : decode cX6_readLayer 16 = .ok (.iload_n 1, 1) := by decide +kernel
theorem dX6_readLayer_17 : decode cX6_readLayer 17 = .ok (.iconst 5, 1) := by decide +kernel
theorem dX6_readLayer_18 : decode cX6_readLayer 18 = .ok (.iadd, 1) := by decide +kernel
theorem dX6_readLayer_19 : decode cX6_readLayer 19 = .ok (.invokevirtual 70, 3) := by decide +kernel
theorem dX6_readLayer_22 : decode cX6_readLayer 22 = .ok (.bipush 45, 2) := by decide +kernel
theorem dX6_readLayer_24 : decode cX6_readLayer 24 = .ok (.if_icmp .ne 6, 3) := by decide +kernel
theorem dX6_readLayer_27 : decode cX6_readLayer 27 = .ok (.iload_n 2, 1) := by decide +kernel
theorem dX6_readLayer_28 : decode cX6_readLayer 28 = .ok (.ineg, 1) := by decide +kernel
theorem dX6_readLayer_29 : decode cX6_readLayer 29 = .ok (.istore_n 2, 1) := by decide +kernel
theorem dX6_readLayer_30 : decode cX6_readLayer 30 = .ok (.aload_n 0, 1) := by decide +kernel
theorem dX6_readLayer_31 : decode cX6_readLayer 31 = .ok (.getfield 16, 3) := by decide +kernel
theorem dX6_readLayer_34 : decode cX6_readLayer 34 = .ok (.getfield 99, 3) := by decide +kernel
theorem dX6_readLayer_37 : decode cX6_readLayer 37 = .ok (.bipush 11, 2) := by decide +kernel
theorem dX6_readLayer_39 : decode cX6_readLayer 39 = .ok (.if_icmp .ge 52, 3) := by decide +kernel
theorem dX6_readLayer_42 : decode cX6_readLayer 42 = .ok (.aload_n 0, 1) := by decide +kernel
theorem dX6_readLayer_43 : decode cX6_readLayer 43 = .ok (.getfield 16, 3) := by decide +kernel
theorem dX6_readLayer_46 : decode cX6_readLayer 46 = .ok (.aload_n 0, 1) := by decide +kernel
theorem dX6_readLayer_47 : decode cX6_readLayer 47 = .ok (.getfield 29, 3) := by decide +kernel
theorem dX6_readLayer_50 : decode cX6_readLayer 50 = .ok (.iload_n 1, 1) := by decide +kernel
theorem dX6_readLayer_51 : decode cX6_readLayer 51 = .ok (.iconst 1, 1) := by decide +kernel
theorem dX6_readLayer_52 : decode cX6_readLayer 52 = .ok (.iadd, 1) := by decide +kernel
theorem dX6_readLayer_53 : decode cX6_readLayer 53 = .ok (.invokevirtual 70, 3) := by decide +kernel
theorem dX6_readLayer_56 : decode cX6_readLayer 56 = .ok (.invokestatic 102, 3) := by decide +kernel
theorem dX6_readLayer_59 : decode cX6_readLayer 59 = .ok (.aload_n 0, 1) := by decide +kernel
theorem dX6_readLayer_60 : decode cX6_readLayer 60 = .ok (.getfield 29, 3) := by decide +kernel
theorem dX6_readLayer_63 : decode cX6_readLayer 63 = .ok (.iload_n 1, 1) := by decide +kernel
theorem dX6_readLayer_64 : decode cX6_readLayer 64 = .ok (.iconst 2, 1) := by decide +kernel
theorem dX6_readLayer_65 : decode cX6_readLayer 65 = .ok (.iadd, 1) := by decide +kernel
theorem dX6_readLayer_66 : decode cX6_readLayer 66 = .ok (.iconst 2, 1) := by decide +kernel
theorem dX6_readLayer_67 : decode cX6_readLayer 67 = .ok (.invokevirtual 91, 3) := by decide +kernel
theorem dX6_readLayer_70 : decode cX6_readLayer 70 = .ok (.aload_n 0, 1) := by decide +kernel
theorem dX6_readLayer_71 : decode cX6_readLayer 71 = .ok (.getfield 29, 3) := by decide +kernel
theorem dX6_readLayer_74 : decode cX6_readLayer 74 = .ok (.iload_n 1, 1) := by decide +kernel
theorem dX6_readLayer_75 : decode cX6_readLayer 75 = .ok (.iconst 4, 1) := by decide +kernel
theorem dX6_readLayer_76 : decode cX6_readLayer 76 = .ok (.iadd, 1) := by decide +kernel
theorem dX6_readLayer_77 : decode cX6_readLayer 77 = .ok (.invokevirtual 84, 3) := by decide +kernel
theorem dX6_readLayer_80 : decode cX6_readLayer 80 = .ok (.iload_n 2, 1) := by decide +kernel
theorem dX6_readLayer_81 : decode cX6_readLayer 81 = .ok (.invokevirtual 108, 3) := by decide +kernel
theorem dX6_readLayer_84 : decode cX6_readLayer 84 = .ok (.ifCond .eq 7, 3) := by decide +kernel
theorem dX6_readLayer_87 : decode cX6_readLayer 87 = .ok (.iconst 1, 1) := by decide +kernel
theorem dX6_readLayer_88 : decode cX6_readLayer 88 = .ok (.goto 4, 3) := by decide +kernel
theorem dX6_readLayer_91 : decode cX6_readLayer 91 = .ok (.iconst 0, 1) := by decide +kernel
theorem dX6_readLayer_92 : decode cX6_readLayer 92 = .ok (.ireturn, 1) := by decide +kernel
set_option maxRecDepth 20000 in
theorem ggX6_readPiece_X1_digit : GoodIn wsX6_readPiece wsX1_digit := goodIn_r _ [6, 7, 8, 9, 4, 10, 11, 12, 13, 14, 15, 142, 143] (by decide +kernel) (by decide +kernel)
set_option maxRecDepth 20000 in
theorem gX6_readPiece_X1_digit_n84 : GoodIn wsX6_readPiece (wsX1_digit) := ggX6_readPiece_X1_digit
set_option maxRecDepth 20000 in
theorem ggX6_readPiece_X4_hasWay : GoodIn wsX6_readPiece wsX4_hasWay := goodIn_r _ [19, 20, 132, 133, 134, 135, 136, 137, 138, 139, 140, 141] (by decide +kernel) (by decide +kernel)
set_option maxRecDepth 20000 in
theorem gX6_readPiece_X4_hasWay_n112 : GoodIn wsX6_readPiece (wsX4_hasWay) := ggX6_readPiece_X4_hasWay
set_option maxRecDepth 20000 in
theorem ggX6_readPiece_X1_at : GoodIn wsX6_readPiece wsX1_at := goodIn_r _ [10, 11, 12, 142, 143] (by decide +kernel) (by decide +kernel)
set_option maxRecDepth 20000 in
theorem gX6_readPiece_X1_at_n70 : GoodIn wsX6_readPiece (wsX1_at) := ggX6_readPiece_X1_at
set_option maxRecDepth 20000 in
theorem ggX6_readPiece_X2_of : GoodIn wsX6_readPiece wsX2_of := goodIn_r _ [23, 24, 25, 26, 27, 28, 29, 30, 31, 32, 33, 34, 35, 36, 37, 38, 39, 40, 41, 42, 43, 44, 45, 46, 47, 48, 49, 50, 51, 52, 53, 54, 55, 56, 57, 58, 59, 60, 61, 62, 63, 64, 65, 66, 67, 68, 69, 70, 71, 72, 73, 74, 75, 76, 77, 78, 79, 80, 81, 82, 83, 84, 85, 86, 87, 88, 89, 90, 91, 92, 93, 94, 95, 96, 97, 98, 99, 100, 101, 102, 103, 104, 105, 106, 107, 108, 109, 110, 111, 112] (by decide +kernel) (by decide +kernel)
set_option maxRecDepth 20000 in
theorem gX6_readPiece_X2_of_n119 : GoodIn wsX6_readPiece (wsX2_of) := ggX6_readPiece_X2_of
set_option maxRecDepth 20000 in
theorem ggX6_readPiece_X1_number : GoodIn wsX6_readPiece wsX1_number := goodIn_r _ [115, 7, 8, 9, 4, 10, 11, 12, 13, 14, 15, 116, 3, 5, 6, 142, 143] (by decide +kernel) (by decide +kernel)
set_option maxRecDepth 20000 in
theorem gX6_readPiece_X1_number_n91 : GoodIn wsX6_readPiece (wsX1_number) := ggX6_readPiece_X1_number
set_option maxRecDepth 20000 in
theorem ggX6_readPiece_X5_add : GoodIn wsX6_readPiece wsX5_add := goodIn_r _ [120, 121, 122, 123, 124, 144, 145, 146, 147] (by decide +kernel) (by decide +kernel)
set_option maxRecDepth 20000 in
theorem gX6_readPiece_X5_add_n122 : GoodIn wsX6_readPiece (wsX5_add) := ggX6_readPiece_X5_add
theorem dX6_readPiece_0 : decode cX6_readPiece 0 = .ok (.aload_n 0, 1) := by decide +kernel
theorem dX6_readPiece_1 : decode cX6_readPiece 1 = .ok (.getfield 29, 3) := by decide +kernel
theorem dX6_readPiece_4 : decode cX6_readPiece 4 = .ok (.iload_n 1, 1) := by decide +kernel
theorem dX6_readPiece_5 : decode cX6_readPiece 5 = .ok (.iconst 1, 1) := by decide +kernel
theorem dX6_readPiece_6 : decode cX6_readPiece 6 = .ok (.iadd, 1) := by decide +kernel
theorem dX6_readPiece_7 : decode cX6_readPiece 7 = .ok (.invokevirtual 84, 3) := by decide +kernel
theorem dX6_readPiece_10 : decode cX6_readPiece 10 = .ok (.istore_n 2, 1) := by decide +kernel
theorem dX6_readPiece_11 : decode cX6_readPiece 11 = .ok (.aload_n 0, 1) := by decide +kernel
theorem dX6_readPiece_12 : decode cX6_readPiece 12 = .ok (.getfield 16, 3) := by decide +kernel
theorem dX6_readPiece_15 : decode cX6_readPiece 15 = .ok (.iload_n 2, 1) := by decide +kernel
theorem dX6_readPiece_16 : decode cX6_readPiece 16 = .ok (.invokevirtual 112, 3) := by decide +kernel
theorem dX6_readPiece_19 : decode cX6_readPiece 19 = .ok (.ifCond .eq 56, 3) := by decide +kernel
theorem dX6_readPiece_22 : decode cX6_readPiece 22 = .ok (.aload_n 0, 1) := by decide +kernel
theorem dX6_readPiece_23 : decode cX6_readPiece 23 = .ok (.getfield 16, 3) := by decide +kernel
theorem dX6_readPiece_26 : decode cX6_readPiece 26 = .ok (.getfield 115, 3) := by decide +kernel
theorem dX6_readPiece_29 : decode cX6_readPiece 29 = .ok (.iload_n 2, 1) := by decide +kernel
theorem dX6_readPiece_30 : decode cX6_readPiece 30 = .ok (.aaload, 1) := by decide +kernel
theorem dX6_readPiece_31 : decode cX6_readPiece 31 = .ok (.aload_n 0, 1) := by decide +kernel
theorem dX6_readPiece_32 : decode cX6_readPiece 32 = .ok (.getfield 29, 3) := by decide +kernel
theorem dX6_readPiece_35 : decode cX6_readPiece 35 = .ok (.iload_n 1, 1) := by decide +kernel
theorem dX6_readPiece_36 : decode cX6_readPiece 36 = .ok (.iconst 2, 1) := by decide +kernel
theorem dX6_readPiece_37 : decode cX6_readPiece 37 = .ok (.iadd, 1) := by decide +kernel
theorem dX6_readPiece_38 : decode cX6_readPiece 38 = .ok (.invokevirtual 70, 3) := by decide +kernel
theorem dX6_readPiece_41 : decode cX6_readPiece 41 = .ok (.invokestatic 119, 3) := by decide +kernel
theorem dX6_readPiece_44 : decode cX6_readPiece 44 = .ok (.aload_n 0, 1) := by decide +kernel
theorem dX6_readPiece_45 : decode cX6_readPiece 45 = .ok (.getfield 29, 3) := by decide +kernel
theorem dX6_readPiece_48 : decode cX6_readPiece 48 = .ok (.iload_n 1, 1) := by decide +kernel
theorem dX6_readPiece_49 : decode cX6_readPiece 49 = .ok (.iconst 3, 1) := by decide +kernel
theorem dX6_readPiece_50 : decode cX6_readPiece 50 = .ok (.iadd, 1) := by decide +kernel
theorem dX6_readPiece_51 : decode cX6_readPiece 51 = .ok (.iconst 2, 1) := by decide +kernel
theorem dX6_readPiece_52 : decode cX6_readPiece 52 = .ok (.invokevirtual 91, 3) := by decide +kernel
theorem dX6_readPiece_55 : decode cX6_readPiece 55 = .ok (.aload_n 0, 1) := by decide +kernel
theorem dX6_readPiece_56 : decode cX6_readPiece 56 = .ok (.getfield 29, 3) := by decide +kernel
theorem dX6_readPiece_59 : decode cX6_readPiece 59 = .ok (.iload_n 1, 1) := by decide +kernel
theorem dX6_readPiece_60 : decode cX6_readPiece 60 = .ok (.iconst 5, 1) := by decide +kernel
theorem dX6_readPiece_61 : decode cX6_readPiece 61 = .ok (.iadd, 1) := by decide +kernel
theorem dX6_readPiece_62 : decode cX6_readPiece 62 = .ok (.invokevirtual 84, 3) := by decide +kernel
theorem dX6_readPiece_65 : decode cX6_readPiece 65 = .ok (.invokevirtual 122, 3) := by decide +kernel
theorem dX6_readPiece_68 : decode cX6_readPiece 68 = .ok (.ifCond .eq 7, 3) := by decide +kernel
theorem dX6_readPiece_71 : decode cX6_readPiece 71 = .ok (.iconst 1, 1) := by decide +kernel
theorem dX6_readPiece_72 : decode cX6_readPiece 72 = .ok (.goto 4, 3) := by decide +kernel
theorem dX6_readPiece_75 : decode cX6_readPiece 75 = .ok (.iconst 0, 1) := by decide +kernel
theorem dX6_readPiece_76 : decode cX6_readPiece 76 = .ok (.ireturn, 1) := by decide +kernel
set_option maxRecDepth 20000 in
theorem ggX6_layer_X4_hasLayer : GoodIn wsX6_layer wsX4_hasLayer := goodIn_r _ [5, 6, 35, 36, 37, 38, 39, 40, 41, 42, 43, 44] (by decide +kernel) (by decide +kernel)
set_option maxRecDepth 20000 in
theorem gX6_layer_X4_hasLayer_n127 : GoodIn wsX6_layer (wsX4_hasLayer) := ggX6_layer_X4_hasLayer
set_option maxRecDepth 20000 in
theorem ggX6_layer_X6_refuseWide : GoodIn wsX6_layer wsX6_refuseWide := goodIn_r _ [11, 12, 13, 14, 15, 10, 16, 17, 28, 29, 30, 31, 32, 33, 34] (by decide +kernel) (by decide +kernel)
set_option maxRecDepth 20000 in
theorem gX6_layer_X6_refuseWide : GoodIn wsX6_layer (wsV RX6 130 RX6 yX6_refuseWide wsX6_refuseWide) := goodIn_app (goodIn_of _ (by decide +kernel)) ggX6_layer_X6_refuseWide
set_option maxRecDepth 20000 in
theorem ggX6_layer_X4_weightOf : GoodIn wsX6_layer wsX4_weightOf := goodIn_r _ [20, 21, 22, 23, 24, 25, 35, 36, 37, 38, 39, 40, 41, 42, 43, 44] (by decide +kernel) (by decide +kernel)
set_option maxRecDepth 20000 in
theorem gX6_layer_X4_weightOf_n145 : GoodIn wsX6_layer (wsX4_weightOf) := ggX6_layer_X4_weightOf
set_option maxRecDepth 20000 in
theorem ggX6_layer_X0_thickness : GoodIn wsX6_layer wsX0_thickness := goodIn_r _ [27] (by decide +kernel) (by decide +kernel)
set_option maxRecDepth 20000 in
theorem gX6_layer_X0_thickness_n151 : GoodIn wsX6_layer (wsX0_thickness) := ggX6_layer_X0_thickness
theorem dX6_layer_0 : decode cX6_layer 0 = .ok (.aload_n 0, 1) := by decide +kernel
theorem dX6_layer_1 : decode cX6_layer 1 = .ok (.getfield 10, 3) := by decide +kernel
theorem dX6_layer_4 : decode cX6_layer 4 = .ok (.iload_n 1, 1) := by decide +kernel
theorem dX6_layer_5 : decode cX6_layer 5 = .ok (.invokevirtual 127, 3) := by decide +kernel
theorem dX6_layer_8 : decode cX6_layer 8 = .ok (.ifCond .ne 9, 3) := by decide +kernel
theorem dX6_layer_11 : decode cX6_layer 11 = .ok (.aload_n 0, 1) := by decide +kernel
theorem dX6_layer_12 : decode cX6_layer 12 = .ok (.iconst (-1), 1) := by decide +kernel
theorem dX6_layer_13 : decode cX6_layer 13 = .ok (.invokevirtual 130, 3) := by decide +kernel
theorem dX6_layer_16 : decode cX6_layer 16 = .ok (.ireturn, 1) := by decide +kernel
theorem dX6_layer_17 : decode cX6_layer 17 = .ok (.iload_n 2, 1) := by decide +kernel
theorem dX6_layer_18 : decode cX6_layer 18 = .ok (.tableswitch 128 0 7 #[46, 56, 66, 76, 86, 95, 105, 118], 46) := by decide +kernel
theorem dX6_layer_64 : decode cX6_layer 64 = .ok (.aload_n 0, 1) := by decide +kernel
theorem dX6_layer_65 : decode cX6_layer 65 = .ok (.getfield 10, 3) := by decide +kernel
theorem dX6_layer_68 : decode cX6_layer 68 = .ok (.getfield 133, 3) := by decide +kernel
theorem dX6_layer_71 : decode cX6_layer 71 = .ok (.iload_n 1, 1) := by decide +kernel
theorem dX6_layer_72 : decode cX6_layer 72 = .ok (.iaload, 1) := by decide +kernel
theorem dX6_layer_73 : decode cX6_layer 73 = .ok (.ireturn, 1) := by decide +kernel
theorem dX6_layer_74 : decode cX6_layer 74 = .ok (.aload_n 0, 1) := by decide +kernel
theorem dX6_layer_75 : decode cX6_layer 75 = .ok (.getfield 10, 3) := by decide +kernel
theorem dX6_layer_78 : decode cX6_layer 78 = .ok (.getfield 136, 3) := by decide +kernel
theorem dX6_layer_81 : decode cX6_layer 81 = .ok (.iload_n 1, 1) := by decide +kernel
theorem dX6_layer_82 : decode cX6_layer 82 = .ok (.iaload, 1) := by decide +kernel
theorem dX6_layer_83 : decode cX6_layer 83 = .ok (.ireturn, 1) := by decide +kernel
theorem dX6_layer_84 : decode cX6_layer 84 = .ok (.aload_n 0, 1) := by decide +kernel
theorem dX6_layer_85 : decode cX6_layer 85 = .ok (.getfield 10, 3) := by decide +kernel
theorem dX6_layer_88 : decode cX6_layer 88 = .ok (.getfield 139, 3) := by decide +kernel
theorem dX6_layer_91 : decode cX6_layer 91 = .ok (.iload_n 1, 1) := by decide +kernel
theorem dX6_layer_92 : decode cX6_layer 92 = .ok (.iaload, 1) := by decide +kernel
theorem dX6_layer_93 : decode cX6_layer 93 = .ok (.ireturn, 1) := by decide +kernel
theorem dX6_layer_94 : decode cX6_layer 94 = .ok (.aload_n 0, 1) := by decide +kernel
theorem dX6_layer_95 : decode cX6_layer 95 = .ok (.getfield 10, 3) := by decide +kernel
theorem dX6_layer_98 : decode cX6_layer 98 = .ok (.getfield 142, 3) := by decide +kernel
theorem dX6_layer_101 : decode cX6_layer 101 = .ok (.iload_n 1, 1) := by decide +kernel
theorem dX6_layer_102 : decode cX6_layer 102 = .ok (.iaload, 1) := by decide +kernel
theorem dX6_layer_103 : decode cX6_layer 103 = .ok (.ireturn, 1) := by decide +kernel
theorem dX6_layer_104 : decode cX6_layer 104 = .ok (.aload_n 0, 1) := by decide +kernel
theorem dX6_layer_105 : decode cX6_layer 105 = .ok (.getfield 10, 3) := by decide +kernel
theorem dX6_layer_108 : decode cX6_layer 108 = .ok (.iload_n 1, 1) := by decide +kernel
theorem dX6_layer_109 : decode cX6_layer 109 = .ok (.invokevirtual 145, 3) := by decide +kernel
theorem dX6_layer_112 : decode cX6_layer 112 = .ok (.ireturn, 1) := by decide +kernel
theorem dX6_layer_113 : decode cX6_layer 113 = .ok (.aload_n 0, 1) := by decide +kernel
theorem dX6_layer_114 : decode cX6_layer 114 = .ok (.getfield 10, 3) := by decide +kernel
theorem dX6_layer_117 : decode cX6_layer 117 = .ok (.getfield 148, 3) := by decide +kernel
theorem dX6_layer_120 : decode cX6_layer 120 = .ok (.iload_n 1, 1) := by decide +kernel
theorem dX6_layer_121 : decode cX6_layer 121 = .ok (.iaload, 1) := by decide +kernel
theorem dX6_layer_122 : decode cX6_layer 122 = .ok (.ireturn, 1) := by decide +kernel
theorem dX6_layer_123 : decode cX6_layer 123 = .ok (.aload_n 0, 1) := by decide +kernel
theorem dX6_layer_124 : decode cX6_layer 124 = .ok (.getfield 10, 3) := by decide +kernel
theorem dX6_layer_127 : decode cX6_layer 127 = .ok (.getfield 133, 3) := by decide +kernel
theorem dX6_layer_130 : decode cX6_layer 130 = .ok (.iload_n 1, 1) := by decide +kernel
theorem dX6_layer_131 : decode cX6_layer 131 = .ok (.iaload, 1) := by decide +kernel
theorem dX6_layer_132 : decode cX6_layer 132 = .ok (.invokestatic 151, 3) := by decide +kernel
theorem dX6_layer_135 : decode cX6_layer 135 = .ok (.ireturn, 1) := by decide +kernel
theorem dX6_layer_136 : decode cX6_layer 136 = .ok (.aload_n 0, 1) := by decide +kernel
theorem dX6_layer_137 : decode cX6_layer 137 = .ok (.getfield 10, 3) := by decide +kernel
theorem dX6_layer_140 : decode cX6_layer 140 = .ok (.getfield 154, 3) := by decide +kernel
theorem dX6_layer_143 : decode cX6_layer 143 = .ok (.iload_n 1, 1) := by decide +kernel
theorem dX6_layer_144 : decode cX6_layer 144 = .ok (.iaload, 1) := by decide +kernel
theorem dX6_layer_145 : decode cX6_layer 145 = .ok (.ireturn, 1) := by decide +kernel
theorem dX6_layer_146 : decode cX6_layer 146 = .ok (.aload_n 0, 1) := by decide +kernel
theorem dX6_layer_147 : decode cX6_layer 147 = .ok (.bipush (-2), 2) := by decide +kernel
theorem dX6_layer_149 : decode cX6_layer 149 = .ok (.invokevirtual 130, 3) := by decide +kernel
theorem dX6_layer_152 : decode cX6_layer 152 = .ok (.ireturn, 1) := by decide +kernel
set_option maxRecDepth 20000 in
theorem ggX6_piece_X4_hasPiece : GoodIn wsX6_piece wsX4_hasPiece := goodIn_r _ [5, 6, 7, 8, 9, 3, 10, 24, 25, 26, 27, 28, 29, 30, 31, 32, 33, 34, 35, 36, 37] (by decide +kernel) (by decide +kernel)
set_option maxRecDepth 20000 in
theorem gX6_piece_X4_hasPiece_n157 : GoodIn wsX6_piece (wsX4_hasPiece) := ggX6_piece_X4_hasPiece
set_option maxRecDepth 20000 in
theorem ggX6_piece_X6_refuse : GoodIn wsX6_piece wsX6_refuse := goodIn_r _ [15, 16, 17, 18, 19, 20, 21, 22, 23] (by decide +kernel) (by decide +kernel)
set_option maxRecDepth 20000 in
theorem gX6_piece_X6_refuse : GoodIn wsX6_piece (wsV RX6 44 RX6 yX6_refuse wsX6_refuse) := goodIn_app (goodIn_of _ (by decide +kernel)) ggX6_piece_X6_refuse
theorem dX6_piece_0 : decode cX6_piece 0 = .ok (.aload_n 0, 1) := by decide +kernel
theorem dX6_piece_1 : decode cX6_piece 1 = .ok (.getfield 10, 3) := by decide +kernel
theorem dX6_piece_4 : decode cX6_piece 4 = .ok (.iload_n 1, 1) := by decide +kernel
theorem dX6_piece_5 : decode cX6_piece 5 = .ok (.iload_n 2, 1) := by decide +kernel
theorem dX6_piece_6 : decode cX6_piece 6 = .ok (.invokevirtual 157, 3) := by decide +kernel
theorem dX6_piece_9 : decode cX6_piece 9 = .ok (.ifCond .ne 9, 3) := by decide +kernel
theorem dX6_piece_12 : decode cX6_piece 12 = .ok (.aload_n 0, 1) := by decide +kernel
theorem dX6_piece_13 : decode cX6_piece 13 = .ok (.iconst (-1), 1) := by decide +kernel
theorem dX6_piece_14 : decode cX6_piece 14 = .ok (.invokevirtual 44, 3) := by decide +kernel
theorem dX6_piece_17 : decode cX6_piece 17 = .ok (.ireturn, 1) := by decide +kernel
theorem dX6_piece_18 : decode cX6_piece 18 = .ok (.iload_n 3, 1) := by decide +kernel
theorem dX6_piece_19 : decode cX6_piece 19 = .ok (.tableswitch 70 0 2 #[25, 40, 55], 25) := by decide +kernel
theorem dX6_piece_44 : decode cX6_piece 44 = .ok (.aload_n 0, 1) := by decide +kernel
theorem dX6_piece_45 : decode cX6_piece 45 = .ok (.getfield 10, 3) := by decide +kernel
theorem dX6_piece_48 : decode cX6_piece 48 = .ok (.getfield 115, 3) := by decide +kernel
theorem dX6_piece_51 : decode cX6_piece 51 = .ok (.iload_n 1, 1) := by decide +kernel
theorem dX6_piece_52 : decode cX6_piece 52 = .ok (.aaload, 1) := by decide +kernel
theorem dX6_piece_53 : decode cX6_piece 53 = .ok (.getfield 160, 3) := by decide +kernel
theorem dX6_piece_56 : decode cX6_piece 56 = .ok (.iload_n 2, 1) := by decide +kernel
theorem dX6_piece_57 : decode cX6_piece 57 = .ok (.iaload, 1) := by decide +kernel
theorem dX6_piece_58 : decode cX6_piece 58 = .ok (.ireturn, 1) := by decide +kernel
theorem dX6_piece_59 : decode cX6_piece 59 = .ok (.aload_n 0, 1) := by decide +kernel
theorem dX6_piece_60 : decode cX6_piece 60 = .ok (.getfield 10, 3) := by decide +kernel
theorem dX6_piece_63 : decode cX6_piece 63 = .ok (.getfield 115, 3) := by decide +kernel
theorem dX6_piece_66 : decode cX6_piece 66 = .ok (.iload_n 1, 1) := by decide +kernel
theorem dX6_piece_67 : decode cX6_piece 67 = .ok (.aaload, 1) := by decide +kernel
theorem dX6_piece_68 : decode cX6_piece 68 = .ok (.getfield 161, 3) := by decide +kernel
theorem dX6_piece_71 : decode cX6_piece 71 = .ok (.iload_n 2, 1) := by decide +kernel
theorem dX6_piece_72 : decode cX6_piece 72 = .ok (.iaload, 1) := by decide +kernel
theorem dX6_piece_73 : decode cX6_piece 73 = .ok (.ireturn, 1) := by decide +kernel
theorem dX6_piece_74 : decode cX6_piece 74 = .ok (.aload_n 0, 1) := by decide +kernel
theorem dX6_piece_75 : decode cX6_piece 75 = .ok (.getfield 10, 3) := by decide +kernel
theorem dX6_piece_78 : decode cX6_piece 78 = .ok (.getfield 115, 3) := by decide +kernel
theorem dX6_piece_81 : decode cX6_piece 81 = .ok (.iload_n 1, 1) := by decide +kernel
theorem dX6_piece_82 : decode cX6_piece 82 = .ok (.aaload, 1) := by decide +kernel
theorem dX6_piece_83 : decode cX6_piece 83 = .ok (.getfield 164, 3) := by decide +kernel
theorem dX6_piece_86 : decode cX6_piece 86 = .ok (.iload_n 2, 1) := by decide +kernel
theorem dX6_piece_87 : decode cX6_piece 87 = .ok (.iaload, 1) := by decide +kernel
theorem dX6_piece_88 : decode cX6_piece 88 = .ok (.ireturn, 1) := by decide +kernel
theorem dX6_piece_89 : decode cX6_piece 89 = .ok (.aload_n 0, 1) := by decide +kernel
theorem dX6_piece_90 : decode cX6_piece 90 = .ok (.bipush (-2), 2) := by decide +kernel
theorem dX6_piece_92 : decode cX6_piece 92 = .ok (.invokevirtual 44, 3) := by decide +kernel
theorem dX6_piece_95 : decode cX6_piece 95 = .ok (.ireturn, 1) := by decide +kernel
set_option maxRecDepth 20000 in
theorem ggX6_off_X4_takeTop : GoodIn wsX6_off wsX4_takeTop := goodIn_r _ [5, 6, 7, 8, 9, 3, 10, 11, 12, 13, 14, 15, 16, 17, 18, 19, 20, 34, 35, 36, 37, 38, 39, 40, 41, 42, 43] (by decide +kernel) (by decide +kernel)
set_option maxRecDepth 20000 in
theorem gX6_off_X4_takeTop_n95 : GoodIn wsX6_off (wsX4_takeTop) := ggX6_off_X4_takeTop
set_option maxRecDepth 20000 in
theorem ggX6_off_X6_refuse : GoodIn wsX6_off wsX6_refuse := goodIn_r _ [25, 26, 27, 28, 29, 30, 31, 32, 33] (by decide +kernel) (by decide +kernel)
set_option maxRecDepth 20000 in
theorem gX6_off_X6_refuse : GoodIn wsX6_off (wsV RX6 44 RX6 yX6_refuse wsX6_refuse) := goodIn_app (goodIn_of _ (by decide +kernel)) ggX6_off_X6_refuse
theorem dX6_off_0 : decode cX6_off 0 = .ok (.aload_n 0, 1) := by decide +kernel
theorem dX6_off_1 : decode cX6_off 1 = .ok (.getfield 10, 3) := by decide +kernel
theorem dX6_off_4 : decode cX6_off 4 = .ok (.invokevirtual 95, 3) := by decide +kernel
theorem dX6_off_7 : decode cX6_off 7 = .ok (.ifCond .ne 10, 3) := by decide +kernel
theorem dX6_off_10 : decode cX6_off 10 = .ok (.aload_n 0, 1) := by decide +kernel
theorem dX6_off_11 : decode cX6_off 11 = .ok (.bipush (-3), 2) := by decide +kernel
theorem dX6_off_13 : decode cX6_off 13 = .ok (.invokevirtual 44, 3) := by decide +kernel
theorem dX6_off_16 : decode cX6_off 16 = .ok (.ireturn, 1) := by decide +kernel
theorem dX6_off_17 : decode cX6_off 17 = .ok (.aload_n 0, 1) := by decide +kernel
theorem dX6_off_18 : decode cX6_off 18 = .ok (.getfield 10, 3) := by decide +kernel
theorem dX6_off_21 : decode cX6_off 21 = .ok (.getfield 99, 3) := by decide +kernel
theorem dX6_off_24 : decode cX6_off 24 = .ok (.ireturn, 1) := by decide +kernel
set_option maxRecDepth 20000 in
theorem ggX6_out_X4_hasLayer : GoodIn wsX6_out wsX4_hasLayer := goodIn_r _ [5, 6, 20, 21, 22, 23, 24, 25, 26, 27, 28, 29] (by decide +kernel) (by decide +kernel)
set_option maxRecDepth 20000 in
theorem gX6_out_X4_hasLayer_n127 : GoodIn wsX6_out (wsX4_hasLayer) := ggX6_out_X4_hasLayer
set_option maxRecDepth 20000 in
theorem ggX6_out_X6_refuse : GoodIn wsX6_out wsX6_refuse := goodIn_r _ [11, 12, 13, 14, 15, 16, 17, 18, 19] (by decide +kernel) (by decide +kernel)
set_option maxRecDepth 20000 in
theorem gX6_out_X6_refuse : GoodIn wsX6_out (wsV RX6 44 RX6 yX6_refuse wsX6_refuse) := goodIn_app (goodIn_of _ (by decide +kernel)) ggX6_out_X6_refuse
theorem dX6_out_0 : decode cX6_out 0 = .ok (.aload_n 0, 1) := by decide +kernel
theorem dX6_out_1 : decode cX6_out 1 = .ok (.getfield 10, 3) := by decide +kernel
theorem dX6_out_4 : decode cX6_out 4 = .ok (.iload_n 1, 1) := by decide +kernel
theorem dX6_out_5 : decode cX6_out 5 = .ok (.invokevirtual 127, 3) := by decide +kernel
theorem dX6_out_8 : decode cX6_out 8 = .ok (.ifCond .ne 9, 3) := by decide +kernel
theorem dX6_out_11 : decode cX6_out 11 = .ok (.aload_n 0, 1) := by decide +kernel
theorem dX6_out_12 : decode cX6_out 12 = .ok (.iconst (-1), 1) := by decide +kernel
theorem dX6_out_13 : decode cX6_out 13 = .ok (.invokevirtual 44, 3) := by decide +kernel
theorem dX6_out_16 : decode cX6_out 16 = .ok (.ireturn, 1) := by decide +kernel
theorem dX6_out_17 : decode cX6_out 17 = .ok (.iload_n 2, 1) := by decide +kernel
theorem dX6_out_18 : decode cX6_out 18 = .ok (.ifCond .ge 10, 3) := by decide +kernel
theorem dX6_out_21 : decode cX6_out 21 = .ok (.aload_n 0, 1) := by decide +kernel
theorem dX6_out_22 : decode cX6_out 22 = .ok (.bipush (-4), 2) := by decide +kernel
theorem dX6_out_24 : decode cX6_out 24 = .ok (.invokevirtual 44, 3) := by decide +kernel
theorem dX6_out_27 : decode cX6_out 27 = .ok (.ireturn, 1) := by decide +kernel
theorem dX6_out_28 : decode cX6_out 28 = .ok (.iload_n 2, 1) := by decide +kernel
theorem dX6_out_29 : decode cX6_out 29 = .ok (.bipush 9, 2) := by decide +kernel
theorem dX6_out_31 : decode cX6_out 31 = .ok (.if_icmp .le 10, 3) := by decide +kernel
theorem dX6_out_34 : decode cX6_out 34 = .ok (.aload_n 0, 1) := by decide +kernel
theorem dX6_out_35 : decode cX6_out 35 = .ok (.bipush (-6), 2) := by decide +kernel
theorem dX6_out_37 : decode cX6_out 37 = .ok (.invokevirtual 44, 3) := by decide +kernel
theorem dX6_out_40 : decode cX6_out 40 = .ok (.ireturn, 1) := by decide +kernel
theorem dX6_out_41 : decode cX6_out 41 = .ok (.aload_n 0, 1) := by decide +kernel
theorem dX6_out_42 : decode cX6_out 42 = .ok (.getfield 10, 3) := by decide +kernel
theorem dX6_out_45 : decode cX6_out 45 = .ok (.getfield 139, 3) := by decide +kernel
theorem dX6_out_48 : decode cX6_out 48 = .ok (.iload_n 1, 1) := by decide +kernel
theorem dX6_out_49 : decode cX6_out 49 = .ok (.iaload, 1) := by decide +kernel
theorem dX6_out_50 : decode cX6_out 50 = .ok (.istore_n 3, 1) := by decide +kernel
theorem dX6_out_51 : decode cX6_out 51 = .ok (.aload_n 0, 1) := by decide +kernel
theorem dX6_out_52 : decode cX6_out 52 = .ok (.getfield 10, 3) := by decide +kernel
theorem dX6_out_55 : decode cX6_out 55 = .ok (.getfield 139, 3) := by decide +kernel
theorem dX6_out_58 : decode cX6_out 58 = .ok (.iload_n 1, 1) := by decide +kernel
theorem dX6_out_59 : decode cX6_out 59 = .ok (.iload_n 2, 1) := by decide +kernel
theorem dX6_out_60 : decode cX6_out 60 = .ok (.iastore, 1) := by decide +kernel
theorem dX6_out_61 : decode cX6_out 61 = .ok (.iload_n 3, 1) := by decide +kernel
theorem dX6_out_62 : decode cX6_out 62 = .ok (.ireturn, 1) := by decide +kernel
set_option maxRecDepth 20000 in
theorem ggX6_set_X6_refuse : GoodIn wsX6_set wsX6_refuse := goodIn_r _ [8, 9, 10, 11, 12, 13, 14, 15, 16] (by decide +kernel) (by decide +kernel)
set_option maxRecDepth 20000 in
theorem gX6_set_X6_refuse : GoodIn wsX6_set (wsV RX6 44 RX6 yX6_refuse wsX6_refuse) := goodIn_app (goodIn_of _ (by decide +kernel)) ggX6_set_X6_refuse
theorem dX6_set_0 : decode cX6_set 0 = .ok (.iload_n 1, 1) := by decide +kernel
theorem dX6_set_1 : decode cX6_set 1 = .ok (.ifCond .lt 8, 3) := by decide +kernel
theorem dX6_set_4 : decode cX6_set 4 = .ok (.iload_n 1, 1) := by decide +kernel
theorem dX6_set_5 : decode cX6_set 5 = .ok (.iconst 3, 1) := by decide +kernel
theorem dX6_set_6 : decode cX6_set 6 = .ok (.if_icmp .le 10, 3) := by decide +kernel
theorem dX6_set_9 : decode cX6_set 9 = .ok (.aload_n 0, 1) := by decide +kernel
theorem dX6_set_10 : decode cX6_set 10 = .ok (.bipush (-2), 2) := by decide +kernel
theorem dX6_set_12 : decode cX6_set 12 = .ok (.invokevirtual 44, 3) := by decide +kernel
theorem dX6_set_15 : decode cX6_set 15 = .ok (.ireturn, 1) := by decide +kernel
theorem dX6_set_16 : decode cX6_set 16 = .ok (.iload_n 2, 1) := by decide +kernel
theorem dX6_set_17 : decode cX6_set 17 = .ok (.getstatic 167, 3) := by decide +kernel
theorem dX6_set_20 : decode cX6_set 20 = .ok (.iload_n 1, 1) := by decide +kernel
theorem dX6_set_21 : decode cX6_set 21 = .ok (.iaload, 1) := by decide +kernel
theorem dX6_set_22 : decode cX6_set 22 = .ok (.if_icmp .ge 10, 3) := by decide +kernel
theorem dX6_set_25 : decode cX6_set 25 = .ok (.aload_n 0, 1) := by decide +kernel
theorem dX6_set_26 : decode cX6_set 26 = .ok (.bipush (-4), 2) := by decide +kernel
theorem dX6_set_28 : decode cX6_set 28 = .ok (.invokevirtual 44, 3) := by decide +kernel
theorem dX6_set_31 : decode cX6_set 31 = .ok (.ireturn, 1) := by decide +kernel
theorem dX6_set_32 : decode cX6_set 32 = .ok (.iload_n 2, 1) := by decide +kernel
theorem dX6_set_33 : decode cX6_set 33 = .ok (.getstatic 170, 3) := by decide +kernel
theorem dX6_set_36 : decode cX6_set 36 = .ok (.iload_n 1, 1) := by decide +kernel
theorem dX6_set_37 : decode cX6_set 37 = .ok (.iaload, 1) := by decide +kernel
theorem dX6_set_38 : decode cX6_set 38 = .ok (.if_icmp .le 10, 3) := by decide +kernel
theorem dX6_set_41 : decode cX6_set 41 = .ok (.aload_n 0, 1) := by decide +kernel
theorem dX6_set_42 : decode cX6_set 42 = .ok (.bipush (-6), 2) := by decide +kernel
theorem dX6_set_44 : decode cX6_set 44 = .ok (.invokevirtual 44, 3) := by decide +kernel
theorem dX6_set_47 : decode cX6_set 47 = .ok (.ireturn, 1) := by decide +kernel
theorem dX6_set_48 : decode cX6_set 48 = .ok (.aload_n 0, 1) := by decide +kernel
theorem dX6_set_49 : decode cX6_set 49 = .ok (.getfield 10, 3) := by decide +kernel
theorem dX6_set_52 : decode cX6_set 52 = .ok (.getfield 173, 3) := by decide +kernel
theorem dX6_set_55 : decode cX6_set 55 = .ok (.iload_n 1, 1) := by decide +kernel
theorem dX6_set_56 : decode cX6_set 56 = .ok (.iaload, 1) := by decide +kernel
theorem dX6_set_57 : decode cX6_set 57 = .ok (.istore_n 3, 1) := by decide +kernel
theorem dX6_set_58 : decode cX6_set 58 = .ok (.aload_n 0, 1) := by decide +kernel
theorem dX6_set_59 : decode cX6_set 59 = .ok (.getfield 10, 3) := by decide +kernel
theorem dX6_set_62 : decode cX6_set 62 = .ok (.getfield 173, 3) := by decide +kernel
theorem dX6_set_65 : decode cX6_set 65 = .ok (.iload_n 1, 1) := by decide +kernel
theorem dX6_set_66 : decode cX6_set 66 = .ok (.iload_n 2, 1) := by decide +kernel
theorem dX6_set_67 : decode cX6_set 67 = .ok (.iastore, 1) := by decide +kernel
theorem dX6_set_68 : decode cX6_set 68 = .ok (.iload_n 3, 1) := by decide +kernel
theorem dX6_set_69 : decode cX6_set 69 = .ok (.ireturn, 1) := by decide +kernel
set_option maxRecDepth 20000 in
theorem ggX6_shift_X4_hasPiece : GoodIn wsX6_shift wsX4_hasPiece := goodIn_r _ [5, 6, 7, 8, 9, 3, 10, 38, 39, 40, 41, 42, 43, 44, 45, 46, 47, 48, 49, 50, 51] (by decide +kernel) (by decide +kernel)
set_option maxRecDepth 20000 in
theorem gX6_shift_X4_hasPiece_n157 : GoodIn wsX6_shift (wsX4_hasPiece) := ggX6_shift_X4_hasPiece
set_option maxRecDepth 20000 in
theorem ggX6_shift_X4_hasLayer : GoodIn wsX6_shift wsX4_hasLayer := goodIn_r _ [13, 14, 38, 39, 40, 41, 42, 43, 44, 45, 46, 47] (by decide +kernel) (by decide +kernel)
set_option maxRecDepth 20000 in
theorem gX6_shift_X4_hasLayer_n127 : GoodIn wsX6_shift (wsX4_hasLayer) := ggX6_shift_X4_hasLayer
set_option maxRecDepth 20000 in
theorem ggX6_shift_X6_refuse : GoodIn wsX6_shift wsX6_refuse := goodIn_r _ [19, 20, 31, 32, 33, 34, 35, 36, 37] (by decide +kernel) (by decide +kernel)
set_option maxRecDepth 20000 in
theorem gX6_shift_X6_refuse : GoodIn wsX6_shift (wsV RX6 44 RX6 yX6_refuse wsX6_refuse) := goodIn_app (goodIn_of _ (by decide +kernel)) ggX6_shift_X6_refuse
set_option maxRecDepth 20000 in
theorem ggX6_shift_X4_shiftOf : GoodIn wsX6_shift wsX4_shiftOf := goodIn_r _ [23, 6, 24, 25, 26, 27, 28, 29, 30, 38, 39, 40, 41, 42, 43, 44, 45, 46, 47, 48, 49, 50, 51] (by decide +kernel) (by decide +kernel)
set_option maxRecDepth 20000 in
theorem gX6_shift_X4_shiftOf_n176 : GoodIn wsX6_shift (wsX4_shiftOf) := ggX6_shift_X4_shiftOf
theorem dX6_shift_0 : decode cX6_shift 0 = .ok (.aload_n 0, 1) := by decide +kernel
theorem dX6_shift_1 : decode cX6_shift 1 = .ok (.getfield 10, 3) := by decide +kernel
theorem dX6_shift_4 : decode cX6_shift 4 = .ok (.iload_n 1, 1) := by decide +kernel
theorem dX6_shift_5 : decode cX6_shift 5 = .ok (.iload_n 2, 1) := by decide +kernel
theorem dX6_shift_6 : decode cX6_shift 6 = .ok (.invokevirtual 157, 3) := by decide +kernel
theorem dX6_shift_9 : decode cX6_shift 9 = .ok (.ifCond .eq 14, 3) := by decide +kernel
theorem dX6_shift_12 : decode cX6_shift 12 = .ok (.aload_n 0, 1) := by decide +kernel
theorem dX6_shift_13 : decode cX6_shift 13 = .ok (.getfield 10, 3) := by decide +kernel
theorem dX6_shift_16 : decode cX6_shift 16 = .ok (.iload_n 3, 1) := by decide +kernel
theorem dX6_shift_17 : decode cX6_shift 17 = .ok (.invokevirtual 127, 3) := by decide +kernel
theorem dX6_shift_20 : decode cX6_shift 20 = .ok (.ifCond .ne 9, 3) := by decide +kernel
theorem dX6_shift_23 : decode cX6_shift 23 = .ok (.aload_n 0, 1) := by decide +kernel
theorem dX6_shift_24 : decode cX6_shift 24 = .ok (.iconst (-1), 1) := by decide +kernel
theorem dX6_shift_25 : decode cX6_shift 25 = .ok (.invokevirtual 44, 3) := by decide +kernel
theorem dX6_shift_28 : decode cX6_shift 28 = .ok (.ireturn, 1) := by decide +kernel
theorem dX6_shift_29 : decode cX6_shift 29 = .ok (.aload_n 0, 1) := by decide +kernel
theorem dX6_shift_30 : decode cX6_shift 30 = .ok (.getfield 10, 3) := by decide +kernel
theorem dX6_shift_33 : decode cX6_shift 33 = .ok (.iload_n 1, 1) := by decide +kernel
theorem dX6_shift_34 : decode cX6_shift 34 = .ok (.iload_n 2, 1) := by decide +kernel
theorem dX6_shift_35 : decode cX6_shift 35 = .ok (.iload_n 3, 1) := by decide +kernel
theorem dX6_shift_36 : decode cX6_shift 36 = .ok (.invokevirtual 176, 3) := by decide +kernel
theorem dX6_shift_39 : decode cX6_shift 39 = .ok (.ireturn, 1) := by decide +kernel
set_option maxRecDepth 20000 in
theorem ggX6_slips_X4_hasWay : GoodIn wsX6_slips wsX4_hasWay := goodIn_r _ [5, 6, 65, 66, 67, 68, 69, 70, 71, 72, 73, 74] (by decide +kernel) (by decide +kernel)
set_option maxRecDepth 20000 in
theorem gX6_slips_X4_hasWay_n112 : GoodIn wsX6_slips (wsX4_hasWay) := ggX6_slips_X4_hasWay
set_option maxRecDepth 20000 in
theorem ggX6_slips_X6_refuse : GoodIn wsX6_slips wsX6_refuse := goodIn_r _ [11, 12, 58, 59, 60, 61, 62, 63, 64] (by decide +kernel) (by decide +kernel)
set_option maxRecDepth 20000 in
theorem gX6_slips_X6_refuse : GoodIn wsX6_slips (wsV RX6 44 RX6 yX6_refuse wsX6_refuse) := goodIn_app (goodIn_of _ (by decide +kernel)) ggX6_slips_X6_refuse
set_option maxRecDepth 20000 in
theorem ggX6_slips_X4_pieceOfSlip : GoodIn wsX6_slips wsX4_pieceOfSlip := goodIn_r _ [15, 6, 16, 17, 18, 3, 19, 20, 21, 22, 23, 24, 25, 26, 27, 28, 29, 30, 31, 32, 33, 34, 35, 36, 37, 38, 39, 40, 41, 42, 43, 44, 45, 46, 47, 48, 49, 50, 51, 52, 53, 54, 55, 56, 57, 65, 66, 67, 68, 69, 70, 71, 72, 73, 74, 75, 76, 77, 78] (by decide +kernel) (by decide +kernel)
set_option maxRecDepth 20000 in
theorem gX6_slips_X4_pieceOfSlip_n180 : GoodIn wsX6_slips (wsX4_pieceOfSlip) := ggX6_slips_X4_pieceOfSlip
set_option maxRecDepth 20000 in
theorem ggX6_slips_X4_layerOfSlip : GoodIn wsX6_slips wsX4_layerOfSlip := goodIn_r _ [19, 20, 21, 22, 23, 3, 24, 6, 25, 26, 27, 28, 29, 30, 31, 32, 33, 34, 35, 36, 37, 38, 39, 40, 41, 42, 43, 44, 45, 46, 47, 48, 49, 50, 51, 52, 53, 54, 55, 56, 57, 65, 66, 67, 68, 69, 70, 71, 72, 73, 74, 75, 76, 77, 78] (by decide +kernel) (by decide +kernel)
set_option maxRecDepth 20000 in
theorem gX6_slips_X4_layerOfSlip_n183 : GoodIn wsX6_slips (wsX4_layerOfSlip) := ggX6_slips_X4_layerOfSlip
theorem dX6_slips_0 : decode cX6_slips 0 = .ok (.aload_n 0, 1) := by decide +kernel
theorem dX6_slips_1 : decode cX6_slips 1 = .ok (.getfield 10, 3) := by decide +kernel
theorem dX6_slips_4 : decode cX6_slips 4 = .ok (.iload_n 1, 1) := by decide +kernel
theorem dX6_slips_5 : decode cX6_slips 5 = .ok (.invokevirtual 112, 3) := by decide +kernel
theorem dX6_slips_8 : decode cX6_slips 8 = .ok (.ifCond .ne 9, 3) := by decide +kernel
theorem dX6_slips_11 : decode cX6_slips 11 = .ok (.aload_n 0, 1) := by decide +kernel
theorem dX6_slips_12 : decode cX6_slips 12 = .ok (.iconst (-1), 1) := by decide +kernel
theorem dX6_slips_13 : decode cX6_slips 13 = .ok (.invokevirtual 44, 3) := by decide +kernel
theorem dX6_slips_16 : decode cX6_slips 16 = .ok (.ireturn, 1) := by decide +kernel
theorem dX6_slips_17 : decode cX6_slips 17 = .ok (.iload_n 2, 1) := by decide +kernel
theorem dX6_slips_18 : decode cX6_slips 18 = .ok (.ifCond .lt 8, 3) := by decide +kernel
theorem dX6_slips_21 : decode cX6_slips 21 = .ok (.iload_n 2, 1) := by decide +kernel
theorem dX6_slips_22 : decode cX6_slips 22 = .ok (.iconst 1, 1) := by decide +kernel
theorem dX6_slips_23 : decode cX6_slips 23 = .ok (.if_icmp .le 10, 3) := by decide +kernel
theorem dX6_slips_26 : decode cX6_slips 26 = .ok (.aload_n 0, 1) := by decide +kernel
theorem dX6_slips_27 : decode cX6_slips 27 = .ok (.bipush (-2), 2) := by decide +kernel
theorem dX6_slips_29 : decode cX6_slips 29 = .ok (.invokevirtual 44, 3) := by decide +kernel
theorem dX6_slips_32 : decode cX6_slips 32 = .ok (.ireturn, 1) := by decide +kernel
theorem dX6_slips_33 : decode cX6_slips 33 = .ok (.aload_n 0, 1) := by decide +kernel
theorem dX6_slips_34 : decode cX6_slips 34 = .ok (.getfield 10, 3) := by decide +kernel
theorem dX6_slips_37 : decode cX6_slips 37 = .ok (.iload_n 1, 1) := by decide +kernel
theorem dX6_slips_38 : decode cX6_slips 38 = .ok (.invokevirtual 180, 3) := by decide +kernel
theorem dX6_slips_41 : decode cX6_slips 41 = .ok (.istore_n 3, 1) := by decide +kernel
theorem dX6_slips_42 : decode cX6_slips 42 = .ok (.iload_n 3, 1) := by decide +kernel
theorem dX6_slips_43 : decode cX6_slips 43 = .ok (.ifCond .ge 6, 3) := by decide +kernel
theorem dX6_slips_46 : decode cX6_slips 46 = .ok (.bipush (-9), 2) := by decide +kernel
theorem dX6_slips_48 : decode cX6_slips 48 = .ok (.ireturn, 1) := by decide +kernel
theorem dX6_slips_49 : decode cX6_slips 49 = .ok (.iload_n 2, 1) := by decide +kernel
theorem dX6_slips_50 : decode cX6_slips 50 = .ok (.ifCond .ne 7, 3) := by decide +kernel
theorem dX6_slips_53 : decode cX6_slips 53 = .ok (.iload_n 3, 1) := by decide +kernel
theorem dX6_slips_54 : decode cX6_slips 54 = .ok (.goto 12, 3) := by decide +kernel
theorem dX6_slips_57 : decode cX6_slips 57 = .ok (.aload_n 0, 1) := by decide +kernel
theorem dX6_slips_58 : decode cX6_slips 58 = .ok (.getfield 10, 3) := by decide +kernel
theorem dX6_slips_61 : decode cX6_slips 61 = .ok (.iload_n 1, 1) := by decide +kernel
theorem dX6_slips_62 : decode cX6_slips 62 = .ok (.iload_n 3, 1) := by decide +kernel
theorem dX6_slips_63 : decode cX6_slips 63 = .ok (.invokevirtual 183, 3) := by decide +kernel
theorem dX6_slips_66 : decode cX6_slips 66 = .ok (.ireturn, 1) := by decide +kernel
set_option maxRecDepth 20000 in
theorem ggX6_margin_X4_hasWay : GoodIn wsX6_margin wsX4_hasWay := goodIn_r _ [5, 6, 53, 54, 55, 56, 57, 58, 59, 60, 61, 62] (by decide +kernel) (by decide +kernel)
set_option maxRecDepth 20000 in
theorem gX6_margin_X4_hasWay_n112 : GoodIn wsX6_margin (wsX4_hasWay) := ggX6_margin_X4_hasWay
set_option maxRecDepth 20000 in
theorem ggX6_margin_X6_refuseWide : GoodIn wsX6_margin wsX6_refuseWide := goodIn_r _ [11, 12, 13, 14, 15, 10, 16, 17, 46, 47, 48, 49, 50, 51, 52] (by decide +kernel) (by decide +kernel)
set_option maxRecDepth 20000 in
theorem gX6_margin_X6_refuseWide : GoodIn wsX6_margin (wsV RX6 130 RX6 yX6_refuseWide wsX6_refuseWide) := goodIn_app (goodIn_of _ (by decide +kernel)) ggX6_margin_X6_refuseWide
set_option maxRecDepth 20000 in
theorem ggX6_margin_X4_leastMargin : GoodIn wsX6_margin wsX4_leastMargin := goodIn_r _ [20, 6, 21, 22, 23, 24, 25, 26, 27, 3, 28, 29, 30, 31, 32, 33, 34, 35, 36, 37, 38, 39, 40, 41, 42, 43, 44, 45, 53, 54, 55, 56, 57, 58, 59, 60, 61, 62, 63, 64, 65, 66] (by decide +kernel) (by decide +kernel)
set_option maxRecDepth 20000 in
theorem gX6_margin_X4_leastMargin_n186 : GoodIn wsX6_margin (wsX4_leastMargin) := ggX6_margin_X4_leastMargin
theorem dX6_margin_0 : decode cX6_margin 0 = .ok (.aload_n 0, 1) := by decide +kernel
theorem dX6_margin_1 : decode cX6_margin 1 = .ok (.getfield 10, 3) := by decide +kernel
theorem dX6_margin_4 : decode cX6_margin 4 = .ok (.iload_n 1, 1) := by decide +kernel
theorem dX6_margin_5 : decode cX6_margin 5 = .ok (.invokevirtual 112, 3) := by decide +kernel
theorem dX6_margin_8 : decode cX6_margin 8 = .ok (.ifCond .ne 9, 3) := by decide +kernel
theorem dX6_margin_11 : decode cX6_margin 11 = .ok (.aload_n 0, 1) := by decide +kernel
theorem dX6_margin_12 : decode cX6_margin 12 = .ok (.iconst (-1), 1) := by decide +kernel
theorem dX6_margin_13 : decode cX6_margin 13 = .ok (.invokevirtual 130, 3) := by decide +kernel
theorem dX6_margin_16 : decode cX6_margin 16 = .ok (.ireturn, 1) := by decide +kernel
theorem dX6_margin_17 : decode cX6_margin 17 = .ok (.aload_n 0, 1) := by decide +kernel
theorem dX6_margin_18 : decode cX6_margin 18 = .ok (.getfield 10, 3) := by decide +kernel
theorem dX6_margin_21 : decode cX6_margin 21 = .ok (.iload_n 1, 1) := by decide +kernel
theorem dX6_margin_22 : decode cX6_margin 22 = .ok (.invokevirtual 186, 3) := by decide +kernel
theorem dX6_margin_25 : decode cX6_margin 25 = .ok (.ireturn, 1) := by decide +kernel
set_option maxRecDepth 20000 in
theorem ggX6_high_X4_hasWay : GoodIn wsX6_high wsX4_hasWay := goodIn_r _ [6, 7, 100, 101, 102, 103, 104, 105, 106, 107, 108, 109] (by decide +kernel) (by decide +kernel)
set_option maxRecDepth 20000 in
theorem gX6_high_X4_hasWay_n112 : GoodIn wsX6_high (wsX4_hasWay) := ggX6_high_X4_hasWay
set_option maxRecDepth 20000 in
theorem ggX6_high_X6_refuse : GoodIn wsX6_high wsX6_refuse := goodIn_r _ [12, 13, 93, 94, 95, 96, 97, 98, 99] (by decide +kernel) (by decide +kernel)
set_option maxRecDepth 20000 in
theorem gX6_high_X6_refuse : GoodIn wsX6_high (wsV RX6 44 RX6 yX6_refuse wsX6_refuse) := goodIn_app (goodIn_of _ (by decide +kernel)) ggX6_high_X6_refuse
set_option maxRecDepth 20000 in
theorem ggX6_high_X4_become : GoodIn wsX6_high wsX4_become := goodIn_r _ [16, 17, 18, 19, 20, 21, 22, 23, 24, 25, 26, 27, 28, 7, 29, 30, 31, 32, 33, 34, 35, 36, 37, 100, 101, 102, 103, 104, 105, 106, 107, 108, 109, 110, 111, 112, 113] (by decide +kernel) (by decide +kernel)
set_option maxRecDepth 20000 in
theorem gX6_high_X4_become_n66 : GoodIn wsX6_high (wsX4_become) := ggX6_high_X4_become
set_option maxRecDepth 20000 in
theorem ggX6_high_X4_holds : GoodIn wsX6_high wsX4_holds := goodIn_r _ [40, 41, 42, 43, 4, 44, 7, 45, 46, 47, 48, 27, 49, 50, 51, 52, 53, 54, 55, 56, 17, 57, 58, 59, 60, 61, 62, 63, 23, 64, 65, 66, 67, 68, 69, 70, 71, 26, 24, 72, 73, 74, 75, 76, 77, 78, 79, 25, 28, 100, 101, 102, 103, 104, 105, 106, 107, 108, 109, 110, 111, 112, 113] (by decide +kernel) (by decide +kernel)
set_option maxRecDepth 20000 in
theorem gX6_high_X4_holds_n189 : GoodIn wsX6_high (wsX4_holds) := ggX6_high_X4_holds
set_option maxRecDepth 20000 in
theorem ggX6_high_X4_takeTop : GoodIn wsX6_high wsX4_takeTop := goodIn_r _ [82, 27, 83, 84, 85, 4, 86, 17, 22, 87, 58, 88, 89, 90, 91, 92, 26, 100, 101, 102, 103, 104, 105, 106, 107, 108, 109] (by decide +kernel) (by decide +kernel)
set_option maxRecDepth 20000 in
theorem gX6_high_X4_takeTop_n95 : GoodIn wsX6_high (wsX4_takeTop) := ggX6_high_X4_takeTop
theorem dX6_high_0 : decode cX6_high 0 = .ok (.aload_n 0, 1) := by decide +kernel
theorem dX6_high_1 : decode cX6_high 1 = .ok (.getfield 10, 3) := by decide +kernel
theorem dX6_high_4 : decode cX6_high 4 = .ok (.iload_n 1, 1) := by decide +kernel
theorem dX6_high_5 : decode cX6_high 5 = .ok (.invokevirtual 112, 3) := by decide +kernel
theorem dX6_high_8 : decode cX6_high 8 = .ok (.ifCond .ne 9, 3) := by decide +kernel
theorem dX6_high_11 : decode cX6_high 11 = .ok (.aload_n 0, 1) := by decide +kernel
theorem dX6_high_12 : decode cX6_high 12 = .ok (.iconst (-1), 1) := by decide +kernel
theorem dX6_high_13 : decode cX6_high 13 = .ok (.invokevirtual 44, 3) := by decide +kernel
theorem dX6_high_16 : decode cX6_high 16 = .ok (.ireturn, 1) := by decide +kernel
theorem dX6_high_17 : decode cX6_high 17 = .ok (.aload_n 0, 1) := by decide +kernel
theorem dX6_high_18 : decode cX6_high 18 = .ok (.getfield 16, 3) := by decide +kernel
theorem dX6_high_21 : decode cX6_high 21 = .ok (.aload_n 0, 1) := by decide +kernel
theorem dX6_high_22 : decode cX6_high 22 = .ok (.getfield 10, 3) := by decide +kernel
theorem dX6_high_25 : decode cX6_high 25 = .ok (.invokevirtual 66, 3) := by decide +kernel
theorem dX6_high_28 : decode cX6_high 28 = .ok (.aload_n 0, 1) := by decide +kernel
theorem dX6_high_29 : decode cX6_high 29 = .ok (.getfield 10, 3) := by decide +kernel
theorem dX6_high_32 : decode cX6_high 32 = .ok (.getfield 99, 3) := by decide +kernel
theorem dX6_high_35 : decode cX6_high 35 = .ok (.istore_n 2, 1) := by decide +kernel
theorem dX6_high_36 : decode cX6_high 36 = .ok (.iload_n 2, 1) := by decide +kernel
theorem dX6_high_37 : decode cX6_high 37 = .ok (.ifCond .le 30, 3) := by decide +kernel
theorem dX6_high_40 : decode cX6_high 40 = .ok (.aload_n 0, 1) := by decide +kernel
theorem dX6_high_41 : decode cX6_high 41 = .ok (.getfield 16, 3) := by decide +kernel
theorem dX6_high_44 : decode cX6_high 44 = .ok (.iload_n 1, 1) := by decide +kernel
theorem dX6_high_45 : decode cX6_high 45 = .ok (.invokevirtual 189, 3) := by decide +kernel
theorem dX6_high_48 : decode cX6_high 48 = .ok (.ifCond .eq 5, 3) := by decide +kernel
theorem dX6_high_51 : decode cX6_high 51 = .ok (.iload_n 2, 1) := by decide +kernel
theorem dX6_high_52 : decode cX6_high 52 = .ok (.ireturn, 1) := by decide +kernel
theorem dX6_high_53 : decode cX6_high 53 = .ok (.aload_n 0, 1) := by decide +kernel
theorem dX6_high_54 : decode cX6_high 54 = .ok (.getfield 16, 3) := by decide +kernel
theorem dX6_high_57 : decode cX6_high 57 = .ok (.invokevirtual 95, 3) := by decide +kernel
theorem dX6_high_60 : decode cX6_high 60 = .ok (.pop, 1) := by decide +kernel
theorem dX6_high_61 : decode cX6_high 61 = .ok (.iinc 2 (-1), 3) := by decide +kernel
theorem dX6_high_64 : decode cX6_high 64 = .ok (.goto (-28), 3) := by decide +kernel
theorem dX6_high_67 : decode cX6_high 67 = .ok (.iconst 0, 1) := by decide +kernel
theorem dX6_high_68 : decode cX6_high 68 = .ok (.ireturn, 1) := by decide +kernel
set_option maxRecDepth 20000 in
theorem ggX6_more_X4_hasWay : GoodIn wsX6_more wsX4_hasWay := goodIn_r _ [6, 7, 108, 109, 110, 111, 112, 113, 114, 115, 116, 117] (by decide +kernel) (by decide +kernel)
set_option maxRecDepth 20000 in
theorem gX6_more_X4_hasWay_n112 : GoodIn wsX6_more (wsX4_hasWay) := ggX6_more_X4_hasWay
set_option maxRecDepth 20000 in
theorem ggX6_more_X6_refuse : GoodIn wsX6_more wsX6_refuse := goodIn_r _ [12, 13, 101, 102, 103, 104, 105, 106, 107] (by decide +kernel) (by decide +kernel)
set_option maxRecDepth 20000 in
theorem gX6_more_X6_refuse : GoodIn wsX6_more (wsV RX6 44 RX6 yX6_refuse wsX6_refuse) := goodIn_app (goodIn_of _ (by decide +kernel)) ggX6_more_X6_refuse
set_option maxRecDepth 20000 in
theorem ggX6_more_X4_hasLayer : GoodIn wsX6_more wsX4_hasLayer := goodIn_r _ [16, 17, 108, 109, 110, 111, 112, 113, 114, 115, 116, 117] (by decide +kernel) (by decide +kernel)
set_option maxRecDepth 20000 in
theorem gX6_more_X4_hasLayer_n127 : GoodIn wsX6_more (wsX4_hasLayer) := ggX6_more_X4_hasLayer
set_option maxRecDepth 20000 in
theorem ggX6_more_X4_become : GoodIn wsX6_more wsX4_become := goodIn_r _ [20, 21, 22, 23, 24, 25, 26, 27, 28, 29, 30, 17, 31, 7, 32, 33, 34, 35, 36, 37, 38, 39, 40, 108, 109, 110, 111, 112, 113, 114, 115, 116, 117, 118, 119, 120, 121] (by decide +kernel) (by decide +kernel)
set_option maxRecDepth 20000 in
theorem gX6_more_X4_become_n66 : GoodIn wsX6_more (wsX4_become) := ggX6_more_X4_become
set_option maxRecDepth 20000 in
theorem ggX6_more_X4_lay : GoodIn wsX6_more wsX4_lay := goodIn_r _ [43, 17, 44, 45, 46, 47, 21, 26, 27, 28, 29, 30, 48, 49, 50, 51, 52, 53, 54, 55, 56, 4, 57, 58, 59, 60, 61, 62, 63, 108, 109, 110, 111, 112, 113, 114, 115, 116, 117] (by decide +kernel) (by decide +kernel)
set_option maxRecDepth 20000 in
theorem gX6_more_X4_lay_n108 : GoodIn wsX6_more (wsX4_lay) := ggX6_more_X4_lay
set_option maxRecDepth 20000 in
theorem ggX6_more_X4_holds : GoodIn wsX6_more wsX4_holds := goodIn_r _ [66, 67, 68, 69, 4, 70, 7, 71, 72, 73, 74, 17, 75, 76, 77, 78, 79, 80, 81, 82, 21, 83, 49, 84, 85, 86, 87, 88, 27, 89, 90, 91, 92, 93, 94, 95, 96, 30, 28, 44, 45, 46, 47, 97, 98, 99, 100, 29, 31, 108, 109, 110, 111, 112, 113, 114, 115, 116, 117, 118, 119, 120, 121] (by decide +kernel) (by decide +kernel)
set_option maxRecDepth 20000 in
theorem gX6_more_X4_holds_n189 : GoodIn wsX6_more (wsX4_holds) := ggX6_more_X4_holds
theorem dX6_more_0 : decode cX6_more 0 = .ok (.aload_n 0, 1) := by decide +kernel
theorem dX6_more_1 : decode cX6_more 1 = .ok (.getfield 10, 3) := by decide +kernel
theorem dX6_more_4 : decode cX6_more 4 = .ok (.iload_n 1, 1) := by decide +kernel
theorem dX6_more_5 : decode cX6_more 5 = .ok (.invokevirtual 112, 3) := by decide +kernel
theorem dX6_more_8 : decode cX6_more 8 = .ok (.ifCond .ne 9, 3) := by decide +kernel
theorem dX6_more_11 : decode cX6_more 11 = .ok (.aload_n 0, 1) := by decide +kernel
theorem dX6_more_12 : decode cX6_more 12 = .ok (.iconst (-1), 1) := by decide +kernel
theorem dX6_more_13 : decode cX6_more 13 = .ok (.invokevirtual 44, 3) := by decide +kernel
theorem dX6_more_16 : decode cX6_more 16 = .ok (.ireturn, 1) := by decide +kernel
theorem dX6_more_17 : decode cX6_more 17 = .ok (.aload_n 0, 1) := by decide +kernel
theorem dX6_more_18 : decode cX6_more 18 = .ok (.getfield 10, 3) := by decide +kernel
theorem dX6_more_21 : decode cX6_more 21 = .ok (.getfield 99, 3) := by decide +kernel
theorem dX6_more_24 : decode cX6_more 24 = .ok (.iconst 1, 1) := by decide +kernel
theorem dX6_more_25 : decode cX6_more 25 = .ok (.isub, 1) := by decide +kernel
theorem dX6_more_26 : decode cX6_more 26 = .ok (.istore_n 2, 1) := by decide +kernel
theorem dX6_more_27 : decode cX6_more 27 = .ok (.aload_n 0, 1) := by decide +kernel
theorem dX6_more_28 : decode cX6_more 28 = .ok (.getfield 10, 3) := by decide +kernel
theorem dX6_more_31 : decode cX6_more 31 = .ok (.iload_n 2, 1) := by decide +kernel
theorem dX6_more_32 : decode cX6_more 32 = .ok (.invokevirtual 127, 3) := by decide +kernel
theorem dX6_more_35 : decode cX6_more 35 = .ok (.ifCond .ne 10, 3) := by decide +kernel
theorem dX6_more_38 : decode cX6_more 38 = .ok (.aload_n 0, 1) := by decide +kernel
theorem dX6_more_39 : decode cX6_more 39 = .ok (.bipush (-3), 2) := by decide +kernel
theorem dX6_more_41 : decode cX6_more 41 = .ok (.invokevirtual 44, 3) := by decide +kernel
theorem dX6_more_44 : decode cX6_more 44 = .ok (.ireturn, 1) := by decide +kernel
theorem dX6_more_45 : decode cX6_more 45 = .ok (.aload_n 0, 1) := by decide +kernel
theorem dX6_more_46 : decode cX6_more 46 = .ok (.getfield 16, 3) := by decide +kernel
theorem dX6_more_49 : decode cX6_more 49 = .ok (.aload_n 0, 1) := by decide +kernel
theorem dX6_more_50 : decode cX6_more 50 = .ok (.getfield 10, 3) := by decide +kernel
theorem dX6_more_53 : decode cX6_more 53 = .ok (.invokevirtual 66, 3) := by decide +kernel
theorem dX6_more_56 : decode cX6_more 56 = .ok (.aload_n 0, 1) := by decide +kernel
theorem dX6_more_57 : decode cX6_more 57 = .ok (.getfield 16, 3) := by decide +kernel
theorem dX6_more_60 : decode cX6_more 60 = .ok (.aload_n 0, 1) := by decide +kernel
theorem dX6_more_61 : decode cX6_more 61 = .ok (.getfield 10, 3) := by decide +kernel
theorem dX6_more_64 : decode cX6_more 64 = .ok (.getfield 133, 3) := by decide +kernel
theorem dX6_more_67 : decode cX6_more 67 = .ok (.iload_n 2, 1) := by decide +kernel
theorem dX6_more_68 : decode cX6_more 68 = .ok (.iaload, 1) := by decide +kernel
theorem dX6_more_69 : decode cX6_more 69 = .ok (.aload_n 0, 1) := by decide +kernel
theorem dX6_more_70 : decode cX6_more 70 = .ok (.getfield 10, 3) := by decide +kernel
theorem dX6_more_73 : decode cX6_more 73 = .ok (.getfield 136, 3) := by decide +kernel
theorem dX6_more_76 : decode cX6_more 76 = .ok (.iload_n 2, 1) := by decide +kernel
theorem dX6_more_77 : decode cX6_more 77 = .ok (.iaload, 1) := by decide +kernel
theorem dX6_more_78 : decode cX6_more 78 = .ok (.aload_n 0, 1) := by decide +kernel
theorem dX6_more_79 : decode cX6_more 79 = .ok (.getfield 10, 3) := by decide +kernel
theorem dX6_more_82 : decode cX6_more 82 = .ok (.getfield 139, 3) := by decide +kernel
theorem dX6_more_85 : decode cX6_more 85 = .ok (.iload_n 2, 1) := by decide +kernel
theorem dX6_more_86 : decode cX6_more 86 = .ok (.iaload, 1) := by decide +kernel
theorem dX6_more_87 : decode cX6_more 87 = .ok (.aload_n 0, 1) := by decide +kernel
theorem dX6_more_88 : decode cX6_more 88 = .ok (.getfield 10, 3) := by decide +kernel
theorem dX6_more_91 : decode cX6_more 91 = .ok (.getfield 142, 3) := by decide +kernel
theorem dX6_more_94 : decode cX6_more 94 = .ok (.iload_n 2, 1) := by decide +kernel
theorem dX6_more_95 : decode cX6_more 95 = .ok (.iaload, 1) := by decide +kernel
theorem dX6_more_96 : decode cX6_more 96 = .ok (.invokevirtual 108, 3) := by decide +kernel
theorem dX6_more_99 : decode cX6_more 99 = .ok (.pop, 1) := by decide +kernel
theorem dX6_more_100 : decode cX6_more 100 = .ok (.aload_n 0, 1) := by decide +kernel
theorem dX6_more_101 : decode cX6_more 101 = .ok (.getfield 16, 3) := by decide +kernel
theorem dX6_more_104 : decode cX6_more 104 = .ok (.iload_n 1, 1) := by decide +kernel
theorem dX6_more_105 : decode cX6_more 105 = .ok (.invokevirtual 189, 3) := by decide +kernel
theorem dX6_more_108 : decode cX6_more 108 = .ok (.ifCond .eq 7, 3) := by decide +kernel
theorem dX6_more_111 : decode cX6_more 111 = .ok (.iconst 1, 1) := by decide +kernel
theorem dX6_more_112 : decode cX6_more 112 = .ok (.goto 4, 3) := by decide +kernel
theorem dX6_more_115 : decode cX6_more 115 = .ok (.iconst 0, 1) := by decide +kernel
theorem dX6_more_116 : decode cX6_more 116 = .ok (.ireturn, 1) := by decide +kernel
set_option maxRecDepth 20000 in
theorem ggX6_farOut_X4_hasWay : GoodIn wsX6_farOut wsX4_hasWay := goodIn_r _ [6, 7, 90, 91, 92, 93, 94, 95, 96, 97, 98, 99] (by decide +kernel) (by decide +kernel)
set_option maxRecDepth 20000 in
theorem gX6_farOut_X4_hasWay_n112 : GoodIn wsX6_farOut (wsX4_hasWay) := ggX6_farOut_X4_hasWay
set_option maxRecDepth 20000 in
theorem ggX6_farOut_X4_hasLayer : GoodIn wsX6_farOut wsX4_hasLayer := goodIn_r _ [10, 11, 90, 91, 92, 93, 94, 95, 96, 97, 98, 99] (by decide +kernel) (by decide +kernel)
set_option maxRecDepth 20000 in
theorem gX6_farOut_X4_hasLayer_n127 : GoodIn wsX6_farOut (wsX4_hasLayer) := ggX6_farOut_X4_hasLayer
set_option maxRecDepth 20000 in
theorem ggX6_farOut_X6_refuse : GoodIn wsX6_farOut wsX6_refuse := goodIn_r _ [16, 17, 83, 84, 85, 86, 87, 88, 89] (by decide +kernel) (by decide +kernel)
set_option maxRecDepth 20000 in
theorem gX6_farOut_X6_refuse : GoodIn wsX6_farOut (wsV RX6 44 RX6 yX6_refuse wsX6_refuse) := goodIn_app (goodIn_of _ (by decide +kernel)) ggX6_farOut_X6_refuse
set_option maxRecDepth 20000 in
theorem ggX6_farOut_X4_become : GoodIn wsX6_farOut wsX4_become := goodIn_r _ [20, 21, 22, 23, 24, 25, 26, 27, 28, 29, 30, 11, 31, 7, 32, 33, 34, 35, 36, 37, 38, 39, 40, 90, 91, 92, 93, 94, 95, 96, 97, 98, 99, 100, 101, 102, 103] (by decide +kernel) (by decide +kernel)
set_option maxRecDepth 20000 in
theorem gX6_farOut_X4_become_n66 : GoodIn wsX6_farOut (wsX4_become) := ggX6_farOut_X4_become
set_option maxRecDepth 20000 in
theorem ggX6_farOut_X4_holds : GoodIn wsX6_farOut wsX4_holds := goodIn_r _ [43, 44, 45, 46, 4, 47, 7, 48, 49, 50, 51, 11, 52, 53, 54, 55, 56, 57, 58, 59, 21, 60, 61, 62, 63, 64, 65, 66, 27, 67, 68, 69, 70, 71, 72, 73, 74, 30, 28, 75, 76, 77, 78, 79, 80, 81, 82, 29, 31, 90, 91, 92, 93, 94, 95, 96, 97, 98, 99, 100, 101, 102, 103] (by decide +kernel) (by decide +kernel)
set_option maxRecDepth 20000 in
theorem gX6_farOut_X4_holds_n189 : GoodIn wsX6_farOut (wsX4_holds) := ggX6_farOut_X4_holds
theorem dX6_farOut_0 : decode cX6_farOut 0 = .ok (.aload_n 0, 1) := by decide +kernel
theorem dX6_farOut_1 : decode cX6_farOut 1 = .ok (.getfield 10, 3) := by decide +kernel
theorem dX6_farOut_4 : decode cX6_farOut 4 = .ok (.iload_n 1, 1) := by decide +kernel
theorem dX6_farOut_5 : decode cX6_farOut 5 = .ok (.invokevirtual 112, 3) := by decide +kernel
theorem dX6_farOut_8 : decode cX6_farOut 8 = .ok (.ifCond .eq 14, 3) := by decide +kernel
theorem dX6_farOut_11 : decode cX6_farOut 11 = .ok (.aload_n 0, 1) := by decide +kernel
theorem dX6_farOut_12 : decode cX6_farOut 12 = .ok (.getfield 10, 3) := by decide +kernel
theorem dX6_farOut_15 : decode cX6_farOut 15 = .ok (.iload_n 2, 1) := by decide +kernel
theorem dX6_farOut_16 : decode cX6_farOut 16 = .ok (.invokevirtual 127, 3) := by decide +kernel
theorem dX6_farOut_19 : decode cX6_farOut 19 = .ok (.ifCond .ne 9, 3) := by decide +kernel
theorem dX6_farOut_22 : decode cX6_farOut 22 = .ok (.aload_n 0, 1) := by decide +kernel
theorem dX6_farOut_23 : decode cX6_farOut 23 = .ok (.iconst (-1), 1) := by decide +kernel
theorem dX6_farOut_24 : decode cX6_farOut 24 = .ok (.invokevirtual 44, 3) := by decide +kernel
theorem dX6_farOut_27 : decode cX6_farOut 27 = .ok (.ireturn, 1) := by decide +kernel
theorem dX6_farOut_28 : decode cX6_farOut 28 = .ok (.aload_n 0, 1) := by decide +kernel
theorem dX6_farOut_29 : decode cX6_farOut 29 = .ok (.getfield 16, 3) := by decide +kernel
theorem dX6_farOut_32 : decode cX6_farOut 32 = .ok (.aload_n 0, 1) := by decide +kernel
theorem dX6_farOut_33 : decode cX6_farOut 33 = .ok (.getfield 10, 3) := by decide +kernel
theorem dX6_farOut_36 : decode cX6_farOut 36 = .ok (.invokevirtual 66, 3) := by decide +kernel
theorem dX6_farOut_39 : decode cX6_farOut 39 = .ok (.bipush 9, 2) := by decide +kernel
theorem dX6_farOut_41 : decode cX6_farOut 41 = .ok (.istore_n 3, 1) := by decide +kernel
theorem dX6_farOut_42 : decode cX6_farOut 42 = .ok (.iload_n 3, 1) := by decide +kernel
theorem dX6_farOut_43 : decode cX6_farOut 43 = .ok (.ifCond .lt 32, 3) := by decide +kernel
theorem dX6_farOut_46 : decode cX6_farOut 46 = .ok (.aload_n 0, 1) := by decide +kernel
theorem dX6_farOut_47 : decode cX6_farOut 47 = .ok (.getfield 16, 3) := by decide +kernel
theorem dX6_farOut_50 : decode cX6_farOut 50 = .ok (.getfield 139, 3) := by decide +kernel
theorem dX6_farOut_53 : decode cX6_farOut 53 = .ok (.iload_n 2, 1) := by decide +kernel
theorem dX6_farOut_54 : decode cX6_farOut 54 = .ok (.iload_n 3, 1) := by decide +kernel
theorem dX6_farOut_55 : decode cX6_farOut 55 = .ok (.iastore, 1) := by decide +kernel
theorem dX6_farOut_56 : decode cX6_farOut 56 = .ok (.aload_n 0, 1) := by decide +kernel
theorem dX6_farOut_57 : decode cX6_farOut 57 = .ok (.getfield 16, 3) := by decide +kernel
theorem dX6_farOut_60 : decode cX6_farOut 60 = .ok (.iload_n 1, 1) := by decide +kernel
theorem dX6_farOut_61 : decode cX6_farOut 61 = .ok (.invokevirtual 189, 3) := by decide +kernel
theorem dX6_farOut_64 : decode cX6_farOut 64 = .ok (.ifCond .eq 5, 3) := by decide +kernel
theorem dX6_farOut_67 : decode cX6_farOut 67 = .ok (.iload_n 3, 1) := by decide +kernel
theorem dX6_farOut_68 : decode cX6_farOut 68 = .ok (.ireturn, 1) := by decide +kernel
theorem dX6_farOut_69 : decode cX6_farOut 69 = .ok (.iinc 3 (-1), 3) := by decide +kernel
theorem dX6_farOut_72 : decode cX6_farOut 72 = .ok (.goto (-30), 3) := by decide +kernel
theorem dX6_farOut_75 : decode cX6_farOut 75 = .ok (.bipush (-9), 2) := by decide +kernel
theorem dX6_farOut_77 : decode cX6_farOut 77 = .ok (.ireturn, 1) := by decide +kernel
set_option maxRecDepth 20000 in
theorem ggX6_leaning_X4_hasWay : GoodIn wsX6_leaning wsX4_hasWay := goodIn_r _ [7, 8, 79, 80, 81, 82, 83, 84, 85, 86, 87, 88] (by decide +kernel) (by decide +kernel)
set_option maxRecDepth 20000 in
theorem gX6_leaning_X4_hasWay_n112 : GoodIn wsX6_leaning (wsX4_hasWay) := ggX6_leaning_X4_hasWay
set_option maxRecDepth 20000 in
theorem ggX6_leaning_X6_refuseWide : GoodIn wsX6_leaning wsX6_refuseWide := goodIn_r _ [13, 14, 15, 16, 17, 12, 18, 19, 72, 73, 74, 75, 76, 77, 78] (by decide +kernel) (by decide +kernel)
set_option maxRecDepth 20000 in
theorem gX6_leaning_X6_refuseWide : GoodIn wsX6_leaning (wsV RX6 130 RX6 yX6_refuseWide wsX6_refuseWide) := goodIn_app (goodIn_of _ (by decide +kernel)) ggX6_leaning_X6_refuseWide
set_option maxRecDepth 20000 in
theorem ggX6_leaning_X4_become : GoodIn wsX6_leaning wsX4_become := goodIn_r _ [22, 23, 24, 25, 26, 27, 28, 29, 30, 31, 32, 33, 34, 8, 35, 36, 37, 38, 39, 40, 41, 42, 43, 79, 80, 81, 82, 83, 84, 85, 86, 87, 88, 89, 90, 91, 92] (by decide +kernel) (by decide +kernel)
set_option maxRecDepth 20000 in
theorem gX6_leaning_X4_become_n66 : GoodIn wsX6_leaning (wsX4_become) := ggX6_leaning_X4_become
set_option maxRecDepth 20000 in
theorem ggX6_leaning_X4_leanMore : GoodIn wsX6_leaning wsX4_leanMore := goodIn_r _ [46, 33, 30, 47, 48, 49, 50, 51, 52, 53, 79, 80, 81, 82, 83, 84, 85, 86, 87, 88] (by decide +kernel) (by decide +kernel)
set_option maxRecDepth 20000 in
theorem gX6_leaning_X4_leanMore_n193 : GoodIn wsX6_leaning (wsX4_leanMore) := ggX6_leaning_X4_leanMore
set_option maxRecDepth 20000 in
theorem ggX6_leaning_X4_leastMargin : GoodIn wsX6_leaning wsX4_leastMargin := goodIn_r _ [56, 8, 47, 48, 49, 50, 57, 58, 59, 5, 60, 33, 61, 62, 63, 64, 31, 34, 65, 66, 67, 68, 32, 30, 69, 70, 71, 29, 79, 80, 81, 82, 83, 84, 85, 86, 87, 88, 89, 90, 91, 92] (by decide +kernel) (by decide +kernel)
set_option maxRecDepth 20000 in
theorem gX6_leaning_X4_leastMargin_n186 : GoodIn wsX6_leaning (wsX4_leastMargin) := ggX6_leaning_X4_leastMargin
theorem dX6_leaning_0 : decode cX6_leaning 0 = .ok (.aload_n 0, 1) := by decide +kernel
theorem dX6_leaning_1 : decode cX6_leaning 1 = .ok (.getfield 10, 3) := by decide +kernel
theorem dX6_leaning_4 : decode cX6_leaning 4 = .ok (.iload_n 1, 1) := by decide +kernel
theorem dX6_leaning_5 : decode cX6_leaning 5 = .ok (.invokevirtual 112, 3) := by decide +kernel
theorem dX6_leaning_8 : decode cX6_leaning 8 = .ok (.ifCond .ne 9, 3) := by decide +kernel
theorem dX6_leaning_11 : decode cX6_leaning 11 = .ok (.aload_n 0, 1) := by decide +kernel
theorem dX6_leaning_12 : decode cX6_leaning 12 = .ok (.iconst (-1), 1) := by decide +kernel
theorem dX6_leaning_13 : decode cX6_leaning 13 = .ok (.invokevirtual 130, 3) := by decide +kernel
theorem dX6_leaning_16 : decode cX6_leaning 16 = .ok (.ireturn, 1) := by decide +kernel
theorem dX6_leaning_17 : decode cX6_leaning 17 = .ok (.bipush (-5), 2) := by decide +kernel
theorem dX6_leaning_19 : decode cX6_leaning 19 = .ok (.istore_n 2, 1) := by decide +kernel
theorem dX6_leaning_20 : decode cX6_leaning 20 = .ok (.ldc 192, 2) := by decide +kernel
theorem dX6_leaning_22 : decode cX6_leaning 22 = .ok (.istore_n 3, 1) := by decide +kernel
theorem dX6_leaning_23 : decode cX6_leaning 23 = .ok (.bipush (-5), 2) := by decide +kernel
theorem dX6_leaning_25 : decode cX6_leaning 25 = .ok (.istore 4, 2) := by decide +kernel
theorem dX6_leaning_27 : decode cX6_leaning 27 = .ok (.iload 4, 2) := by decide +kernel
theorem dX6_leaning_29 : decode cX6_leaning 29 = .ok (.iconst 5, 1) := by decide +kernel
theorem dX6_leaning_30 : decode cX6_leaning 30 = .ok (.if_icmp .gt 51, 3) := by decide +kernel
theorem dX6_leaning_33 : decode cX6_leaning 33 = .ok (.aload_n 0, 1) := by decide +kernel
theorem dX6_leaning_34 : decode cX6_leaning 34 = .ok (.getfield 16, 3) := by decide +kernel
theorem dX6_leaning_37 : decode cX6_leaning 37 = .ok (.aload_n 0, 1) := by decide +kernel
theorem dX6_leaning_38 : decode cX6_leaning 38 = .ok (.getfield 10, 3) := by decide +kernel
theorem dX6_leaning_41 : decode cX6_leaning 41 = .ok (.invokevirtual 66, 3) := by decide +kernel
theorem dX6_leaning_44 : decode cX6_leaning 44 = .ok (.aload_n 0, 1) := by decide +kernel
theorem dX6_leaning_45 : decode cX6_leaning 45 = .ok (.getfield 16, 3) := by decide +kernel
theorem dX6_leaning_48 : decode cX6_leaning 48 = .ok (.iload 4, 2) := by decide +kernel
theorem dX6_leaning_50 : decode cX6_leaning 50 = .ok (.invokevirtual 193, 3) := by decide +kernel
theorem dX6_leaning_53 : decode cX6_leaning 53 = .ok (.aload_n 0, 1) := by decide +kernel
theorem dX6_leaning_54 : decode cX6_leaning 54 = .ok (.getfield 16, 3) := by decide +kernel
theorem dX6_leaning_57 : decode cX6_leaning 57 = .ok (.iload_n 1, 1) := by decide +kernel
theorem dX6_leaning_58 : decode cX6_leaning 58 = .ok (.invokevirtual 186, 3) := by decide +kernel
theorem dX6_leaning_61 : decode cX6_leaning 61 = .ok (.istore 5, 2) := by decide +kernel
theorem dX6_leaning_63 : decode cX6_leaning 63 = .ok (.iload 5, 2) := by decide +kernel
theorem dX6_leaning_65 : decode cX6_leaning 65 = .ok (.iload_n 3, 1) := by decide +kernel
theorem dX6_leaning_66 : decode cX6_leaning 66 = .ok (.if_icmp .le 9, 3) := by decide +kernel
theorem dX6_leaning_69 : decode cX6_leaning 69 = .ok (.iload 4, 2) := by decide +kernel
theorem dX6_leaning_71 : decode cX6_leaning 71 = .ok (.istore_n 2, 1) := by decide +kernel
theorem dX6_leaning_72 : decode cX6_leaning 72 = .ok (.iload 5, 2) := by decide +kernel
theorem dX6_leaning_74 : decode cX6_leaning 74 = .ok (.istore_n 3, 1) := by decide +kernel
theorem dX6_leaning_75 : decode cX6_leaning 75 = .ok (.iinc 4 1, 3) := by decide +kernel
theorem dX6_leaning_78 : decode cX6_leaning 78 = .ok (.goto (-51), 3) := by decide +kernel
theorem dX6_leaning_81 : decode cX6_leaning 81 = .ok (.iload_n 2, 1) := by decide +kernel
theorem dX6_leaning_82 : decode cX6_leaning 82 = .ok (.ireturn, 1) := by decide +kernel
set_option maxRecDepth 20000 in
theorem ggX6_enough_X4_hasWay : GoodIn wsX6_enough wsX4_hasWay := goodIn_r _ [7, 8, 88, 89, 90, 91, 92, 93, 94, 95, 96, 97] (by decide +kernel) (by decide +kernel)
set_option maxRecDepth 20000 in
theorem gX6_enough_X4_hasWay_n112 : GoodIn wsX6_enough (wsX4_hasWay) := ggX6_enough_X4_hasWay
set_option maxRecDepth 20000 in
theorem ggX6_enough_X6_refuse : GoodIn wsX6_enough wsX6_refuse := goodIn_r _ [13, 14, 81, 82, 83, 84, 85, 86, 87] (by decide +kernel) (by decide +kernel)
set_option maxRecDepth 20000 in
theorem gX6_enough_X6_refuse : GoodIn wsX6_enough (wsV RX6 44 RX6 yX6_refuse wsX6_refuse) := goodIn_app (goodIn_of _ (by decide +kernel)) ggX6_enough_X6_refuse
set_option maxRecDepth 20000 in
theorem ggX6_enough_X4_become : GoodIn wsX6_enough wsX4_become := goodIn_r _ [17, 18, 19, 20, 21, 22, 23, 24, 25, 26, 27, 28, 29, 8, 30, 31, 32, 33, 34, 35, 36, 37, 38, 88, 89, 90, 91, 92, 93, 94, 95, 96, 97, 98, 99, 100, 101] (by decide +kernel) (by decide +kernel)
set_option maxRecDepth 20000 in
theorem gX6_enough_X4_become_n66 : GoodIn wsX6_enough (wsX4_become) := ggX6_enough_X4_become
set_option maxRecDepth 20000 in
theorem ggX6_enough_X4_holds : GoodIn wsX6_enough wsX4_holds := goodIn_r _ [41, 42, 43, 44, 5, 45, 8, 46, 47, 48, 49, 28, 50, 51, 52, 53, 54, 55, 56, 57, 18, 58, 59, 60, 61, 62, 63, 64, 24, 65, 66, 67, 68, 69, 70, 71, 72, 27, 25, 73, 74, 75, 76, 77, 78, 79, 80, 26, 29, 88, 89, 90, 91, 92, 93, 94, 95, 96, 97, 98, 99, 100, 101] (by decide +kernel) (by decide +kernel)
set_option maxRecDepth 20000 in
theorem gX6_enough_X4_holds_n189 : GoodIn wsX6_enough (wsX4_holds) := ggX6_enough_X4_holds
theorem dX6_enough_0 : decode cX6_enough 0 = .ok (.aload_n 0, 1) := by decide +kernel
theorem dX6_enough_1 : decode cX6_enough 1 = .ok (.getfield 10, 3) := by decide +kernel
theorem dX6_enough_4 : decode cX6_enough 4 = .ok (.iload_n 1, 1) := by decide +kernel
theorem dX6_enough_5 : decode cX6_enough 5 = .ok (.invokevirtual 112, 3) := by decide +kernel
theorem dX6_enough_8 : decode cX6_enough 8 = .ok (.ifCond .ne 9, 3) := by decide +kernel
theorem dX6_enough_11 : decode cX6_enough 11 = .ok (.aload_n 0, 1) := by decide +kernel
theorem dX6_enough_12 : decode cX6_enough 12 = .ok (.iconst (-1), 1) := by decide +kernel
theorem dX6_enough_13 : decode cX6_enough 13 = .ok (.invokevirtual 44, 3) := by decide +kernel
theorem dX6_enough_16 : decode cX6_enough 16 = .ok (.ireturn, 1) := by decide +kernel
theorem dX6_enough_17 : decode cX6_enough 17 = .ok (.aload_n 0, 1) := by decide +kernel
theorem dX6_enough_18 : decode cX6_enough 18 = .ok (.getfield 16, 3) := by decide +kernel
theorem dX6_enough_21 : decode cX6_enough 21 = .ok (.aload_n 0, 1) := by decide +kernel
theorem dX6_enough_22 : decode cX6_enough 22 = .ok (.getfield 10, 3) := by decide +kernel
theorem dX6_enough_25 : decode cX6_enough 25 = .ok (.invokevirtual 66, 3) := by decide +kernel
theorem dX6_enough_28 : decode cX6_enough 28 = .ok (.iconst 0, 1) := by decide +kernel
theorem dX6_enough_29 : decode cX6_enough 29 = .ok (.istore_n 2, 1) := by decide +kernel
theorem dX6_enough_30 : decode cX6_enough 30 = .ok (.iload_n 2, 1) := by decide +kernel
theorem dX6_enough_31 : decode cX6_enough 31 = .ok (.getstatic 170, 3) := by decide +kernel
theorem dX6_enough_34 : decode cX6_enough 34 = .ok (.iconst 0, 1) := by decide +kernel
theorem dX6_enough_35 : decode cX6_enough 35 = .ok (.iaload, 1) := by decide +kernel
theorem dX6_enough_36 : decode cX6_enough 36 = .ok (.if_icmp .gt 32, 3) := by decide +kernel
theorem dX6_enough_39 : decode cX6_enough 39 = .ok (.aload_n 0, 1) := by decide +kernel
theorem dX6_enough_40 : decode cX6_enough 40 = .ok (.getfield 16, 3) := by decide +kernel
theorem dX6_enough_43 : decode cX6_enough 43 = .ok (.getfield 173, 3) := by decide +kernel
theorem dX6_enough_46 : decode cX6_enough 46 = .ok (.iconst 0, 1) := by decide +kernel
theorem dX6_enough_47 : decode cX6_enough 47 = .ok (.iload_n 2, 1) := by decide +kernel
theorem dX6_enough_48 : decode cX6_enough 48 = .ok (.iastore, 1) := by decide +kernel
theorem dX6_enough_49 : decode cX6_enough 49 = .ok (.aload_n 0, 1) := by decide +kernel
theorem dX6_enough_50 : decode cX6_enough 50 = .ok (.getfield 16, 3) := by decide +kernel
theorem dX6_enough_53 : decode cX6_enough 53 = .ok (.iload_n 1, 1) := by decide +kernel
theorem dX6_enough_54 : decode cX6_enough 54 = .ok (.invokevirtual 189, 3) := by decide +kernel
theorem dX6_enough_57 : decode cX6_enough 57 = .ok (.ifCond .eq 5, 3) := by decide +kernel
theorem dX6_enough_60 : decode cX6_enough 60 = .ok (.iload_n 2, 1) := by decide +kernel
theorem dX6_enough_61 : decode cX6_enough 61 = .ok (.ireturn, 1) := by decide +kernel
theorem dX6_enough_62 : decode cX6_enough 62 = .ok (.iinc 2 1, 3) := by decide +kernel
theorem dX6_enough_65 : decode cX6_enough 65 = .ok (.goto (-35), 3) := by decide +kernel
theorem dX6_enough_68 : decode cX6_enough 68 = .ok (.bipush (-9), 2) := by decide +kernel
theorem dX6_enough_70 : decode cX6_enough 70 = .ok (.ireturn, 1) := by decide +kernel
set_option maxRecDepth 20000 in
theorem ggX6_home_X4_hasWay : GoodIn wsX6_home wsX4_hasWay := goodIn_r _ [5, 6, 79, 80, 81, 82, 83, 84, 85, 86, 87, 88] (by decide +kernel) (by decide +kernel)
set_option maxRecDepth 20000 in
theorem gX6_home_X4_hasWay_n112 : GoodIn wsX6_home (wsX4_hasWay) := ggX6_home_X4_hasWay
set_option maxRecDepth 20000 in
theorem ggX6_home_X6_refuse : GoodIn wsX6_home wsX6_refuse := goodIn_r _ [11, 12, 72, 73, 74, 75, 76, 77, 78] (by decide +kernel) (by decide +kernel)
set_option maxRecDepth 20000 in
theorem gX6_home_X6_refuse : GoodIn wsX6_home (wsV RX6 44 RX6 yX6_refuse wsX6_refuse) := goodIn_app (goodIn_of _ (by decide +kernel)) ggX6_home_X6_refuse
set_option maxRecDepth 20000 in
theorem ggX6_home_X6_minutesHome : GoodIn wsX6_home wsX6_minutesHome := goodIn_r _ [16, 1, 17, 3, 18, 19, 20, 21, 22, 23, 6, 24, 25, 26, 27, 28, 29, 30, 31, 32, 33, 34, 35, 36, 37, 38, 39, 40, 41, 42, 43, 44, 45, 46, 47, 48, 49, 50, 51, 52, 53, 54, 55, 56, 57, 58, 59, 60, 61, 62, 63, 64, 65, 66, 67, 68, 69, 70, 71, 72, 73, 74, 75, 76, 77, 78, 79, 80, 81, 82, 83, 84, 85, 86, 87, 88, 89, 90, 91, 92] (by decide +kernel) (by decide +kernel)
set_option maxRecDepth 20000 in
theorem gX6_home_X6_minutesHome : GoodIn wsX6_home (wsV RX6 197 RX6 yX6_minutesHome wsX6_minutesHome) := goodIn_app (goodIn_of _ (by decide +kernel)) ggX6_home_X6_minutesHome
theorem dX6_home_0 : decode cX6_home 0 = .ok (.aload_n 0, 1) := by decide +kernel
theorem dX6_home_1 : decode cX6_home 1 = .ok (.getfield 10, 3) := by decide +kernel
theorem dX6_home_4 : decode cX6_home 4 = .ok (.iload_n 1, 1) := by decide +kernel
theorem dX6_home_5 : decode cX6_home 5 = .ok (.invokevirtual 112, 3) := by decide +kernel
theorem dX6_home_8 : decode cX6_home 8 = .ok (.ifCond .ne 9, 3) := by decide +kernel
theorem dX6_home_11 : decode cX6_home 11 = .ok (.aload_n 0, 1) := by decide +kernel
theorem dX6_home_12 : decode cX6_home 12 = .ok (.iconst (-1), 1) := by decide +kernel
theorem dX6_home_13 : decode cX6_home 13 = .ok (.invokevirtual 44, 3) := by decide +kernel
theorem dX6_home_16 : decode cX6_home 16 = .ok (.ireturn, 1) := by decide +kernel
theorem dX6_home_17 : decode cX6_home 17 = .ok (.aload_n 0, 1) := by decide +kernel
theorem dX6_home_18 : decode cX6_home 18 = .ok (.iload_n 1, 1) := by decide +kernel
theorem dX6_home_19 : decode cX6_home 19 = .ok (.invokevirtual 197, 3) := by decide +kernel
theorem dX6_home_22 : decode cX6_home 22 = .ok (.ireturn, 1) := by decide +kernel
set_option maxRecDepth 20000 in
theorem ggX6_minutesHome_X4_holds : GoodIn wsX6_minutesHome wsX4_holds := goodIn_r _ [5, 6, 7, 8, 3, 9, 10, 11, 12, 13, 14, 15, 16, 17, 18, 19, 20, 21, 22, 23, 24, 25, 26, 27, 28, 29, 30, 31, 32, 33, 34, 35, 36, 37, 38, 39, 40, 41, 42, 43, 44, 45, 46, 47, 48, 49, 50, 51, 52, 66, 67, 68, 69, 70, 71, 72, 73, 74, 75, 76, 77, 78, 79] (by decide +kernel) (by decide +kernel)
set_option maxRecDepth 20000 in
theorem gX6_minutesHome_X4_holds_n189 : GoodIn wsX6_minutesHome (wsX4_holds) := ggX6_minutesHome_X4_holds
set_option maxRecDepth 20000 in
theorem ggX6_minutesHome_X5_allMinutes : GoodIn wsX6_minutesHome wsX5_allMinutes := goodIn_r _ [56, 57, 58, 76, 77, 78, 79] (by decide +kernel) (by decide +kernel)
set_option maxRecDepth 20000 in
theorem gX6_minutesHome_X5_allMinutes_n200 : GoodIn wsX6_minutesHome (wsX5_allMinutes) := ggX6_minutesHome_X5_allMinutes
theorem dX6_minutesHome_0 : decode cX6_minutesHome 0 = .ok (.aload_n 0, 1) := by decide +kernel
theorem dX6_minutesHome_1 : decode cX6_minutesHome 1 = .ok (.getfield 10, 3) := by decide +kernel
theorem dX6_minutesHome_4 : decode cX6_minutesHome 4 = .ok (.iload_n 1, 1) := by decide +kernel
theorem dX6_minutesHome_5 : decode cX6_minutesHome 5 = .ok (.invokevirtual 189, 3) := by decide +kernel
theorem dX6_minutesHome_8 : decode cX6_minutesHome 8 = .ok (.ifCond .eq 18, 3) := by decide +kernel
theorem dX6_minutesHome_11 : decode cX6_minutesHome 11 = .ok (.aload_n 0, 1) := by decide +kernel
theorem dX6_minutesHome_12 : decode cX6_minutesHome 12 = .ok (.getfield 10, 3) := by decide +kernel
theorem dX6_minutesHome_15 : decode cX6_minutesHome 15 = .ok (.getfield 115, 3) := by decide +kernel
theorem dX6_minutesHome_18 : decode cX6_minutesHome 18 = .ok (.iload_n 1, 1) := by decide +kernel
theorem dX6_minutesHome_19 : decode cX6_minutesHome 19 = .ok (.aaload, 1) := by decide +kernel
theorem dX6_minutesHome_20 : decode cX6_minutesHome 20 = .ok (.invokevirtual 200, 3) := by decide +kernel
theorem dX6_minutesHome_23 : decode cX6_minutesHome 23 = .ok (.goto 5, 3) := by decide +kernel
theorem dX6_minutesHome_26 : decode cX6_minutesHome 26 = .ok (.bipush (-9), 2) := by decide +kernel
theorem dX6_minutesHome_28 : decode cX6_minutesHome 28 = .ok (.ireturn, 1) := by decide +kernel
set_option maxRecDepth 20000 in
theorem ggX6_which_X6_minutesHome : GoodIn wsX6_which wsX6_minutesHome := goodIn_r _ [5, 6, 7, 8, 9, 10, 11, 12, 13, 14, 15, 16, 17, 18, 19, 20, 21, 22, 23, 24, 25, 26, 27, 28, 29, 30, 31, 32, 33, 34, 35, 36, 37, 38, 39, 40, 41, 42, 43, 44, 45, 46, 47, 48, 49, 50, 51, 52, 53, 54, 55, 56, 57, 58, 59, 60, 61, 62, 63, 64, 65, 66, 67, 68, 69, 70, 71, 72, 73, 74, 75, 76, 77, 78, 79, 80, 81, 82, 83, 84] (by decide +kernel) (by decide +kernel)
set_option maxRecDepth 20000 in
theorem gX6_which_X6_minutesHome : GoodIn wsX6_which (wsV RX6 197 RX6 yX6_minutesHome wsX6_minutesHome) := goodIn_app (goodIn_of _ (by decide +kernel)) ggX6_which_X6_minutesHome
theorem dX6_which_0 : decode cX6_which 0 = .ok (.aload_n 0, 1) := by decide +kernel
theorem dX6_which_1 : decode cX6_which 1 = .ok (.iconst 0, 1) := by decide +kernel
theorem dX6_which_2 : decode cX6_which 2 = .ok (.invokevirtual 197, 3) := by decide +kernel
theorem dX6_which_5 : decode cX6_which 5 = .ok (.istore_n 1, 1) := by decide +kernel
theorem dX6_which_6 : decode cX6_which 6 = .ok (.aload_n 0, 1) := by decide +kernel
theorem dX6_which_7 : decode cX6_which 7 = .ok (.iconst 1, 1) := by decide +kernel
theorem dX6_which_8 : decode cX6_which 8 = .ok (.invokevirtual 197, 3) := by decide +kernel
theorem dX6_which_11 : decode cX6_which 11 = .ok (.istore_n 2, 1) := by decide +kernel
theorem dX6_which_12 : decode cX6_which 12 = .ok (.iload_n 1, 1) := by decide +kernel
theorem dX6_which_13 : decode cX6_which 13 = .ok (.bipush (-9), 2) := by decide +kernel
theorem dX6_which_15 : decode cX6_which 15 = .ok (.if_icmp .ne 16, 3) := by decide +kernel
theorem dX6_which_18 : decode cX6_which 18 = .ok (.iload_n 2, 1) := by decide +kernel
theorem dX6_which_19 : decode cX6_which 19 = .ok (.bipush (-9), 2) := by decide +kernel
theorem dX6_which_21 : decode cX6_which 21 = .ok (.if_icmp .ne 8, 3) := by decide +kernel
theorem dX6_which_24 : decode cX6_which 24 = .ok (.bipush (-9), 2) := by decide +kernel
theorem dX6_which_26 : decode cX6_which 26 = .ok (.goto 4, 3) := by decide +kernel
theorem dX6_which_29 : decode cX6_which 29 = .ok (.iconst 1, 1) := by decide +kernel
theorem dX6_which_30 : decode cX6_which 30 = .ok (.ireturn, 1) := by decide +kernel
theorem dX6_which_31 : decode cX6_which 31 = .ok (.iload_n 2, 1) := by decide +kernel
theorem dX6_which_32 : decode cX6_which 32 = .ok (.bipush (-9), 2) := by decide +kernel
theorem dX6_which_34 : decode cX6_which 34 = .ok (.if_icmp .eq 8, 3) := by decide +kernel
theorem dX6_which_37 : decode cX6_which 37 = .ok (.iload_n 1, 1) := by decide +kernel
theorem dX6_which_38 : decode cX6_which 38 = .ok (.iload_n 2, 1) := by decide +kernel
theorem dX6_which_39 : decode cX6_which 39 = .ok (.if_icmp .gt 7, 3) := by decide +kernel
theorem dX6_which_42 : decode cX6_which 42 = .ok (.iconst 0, 1) := by decide +kernel
theorem dX6_which_43 : decode cX6_which 43 = .ok (.goto 4, 3) := by decide +kernel
theorem dX6_which_46 : decode cX6_which 46 = .ok (.iconst 1, 1) := by decide +kernel
theorem dX6_which_47 : decode cX6_which 47 = .ok (.ireturn, 1) := by decide +kernel
set_option maxRecDepth 20000 in
theorem ggX6_pitching_X6_refuse : GoodIn wsX6_pitching wsX6_refuse := goodIn_r _ [8, 9, 20, 21, 22, 23, 24, 25, 26] (by decide +kernel) (by decide +kernel)
set_option maxRecDepth 20000 in
theorem gX6_pitching_X6_refuse : GoodIn wsX6_pitching (wsV RX6 44 RX6 yX6_refuse wsX6_refuse) := goodIn_app (goodIn_of _ (by decide +kernel)) ggX6_pitching_X6_refuse
set_option maxRecDepth 20000 in
theorem ggX6_pitching_X4_pitchingMinutes : GoodIn wsX6_pitching wsX4_pitchingMinutes := goodIn_r _ [13, 14, 15, 16, 11, 17, 18, 19, 27, 28, 29, 30, 31, 32, 33, 34, 35, 36] (by decide +kernel) (by decide +kernel)
set_option maxRecDepth 20000 in
theorem gX6_pitching_X4_pitchingMinutes_n203 : GoodIn wsX6_pitching (wsX4_pitchingMinutes) := ggX6_pitching_X4_pitchingMinutes
theorem dX6_pitching_0 : decode cX6_pitching 0 = .ok (.iload_n 1, 1) := by decide +kernel
theorem dX6_pitching_1 : decode cX6_pitching 1 = .ok (.getstatic 167, 3) := by decide +kernel
theorem dX6_pitching_4 : decode cX6_pitching 4 = .ok (.iconst 2, 1) := by decide +kernel
theorem dX6_pitching_5 : decode cX6_pitching 5 = .ok (.iaload, 1) := by decide +kernel
theorem dX6_pitching_6 : decode cX6_pitching 6 = .ok (.if_icmp .ge 10, 3) := by decide +kernel
theorem dX6_pitching_9 : decode cX6_pitching 9 = .ok (.aload_n 0, 1) := by decide +kernel
theorem dX6_pitching_10 : decode cX6_pitching 10 = .ok (.bipush (-4), 2) := by decide +kernel
theorem dX6_pitching_12 : decode cX6_pitching 12 = .ok (.invokevirtual 44, 3) := by decide +kernel
theorem dX6_pitching_15 : decode cX6_pitching 15 = .ok (.ireturn, 1) := by decide +kernel
theorem dX6_pitching_16 : decode cX6_pitching 16 = .ok (.iload_n 1, 1) := by decide +kernel
theorem dX6_pitching_17 : decode cX6_pitching 17 = .ok (.getstatic 170, 3) := by decide +kernel
theorem dX6_pitching_20 : decode cX6_pitching 20 = .ok (.iconst 2, 1) := by decide +kernel
theorem dX6_pitching_21 : decode cX6_pitching 21 = .ok (.iaload, 1) := by decide +kernel
theorem dX6_pitching_22 : decode cX6_pitching 22 = .ok (.if_icmp .le 10, 3) := by decide +kernel
theorem dX6_pitching_25 : decode cX6_pitching 25 = .ok (.aload_n 0, 1) := by decide +kernel
theorem dX6_pitching_26 : decode cX6_pitching 26 = .ok (.bipush (-6), 2) := by decide +kernel
theorem dX6_pitching_28 : decode cX6_pitching 28 = .ok (.invokevirtual 44, 3) := by decide +kernel
theorem dX6_pitching_31 : decode cX6_pitching 31 = .ok (.ireturn, 1) := by decide +kernel
theorem dX6_pitching_32 : decode cX6_pitching 32 = .ok (.aload_n 0, 1) := by decide +kernel
theorem dX6_pitching_33 : decode cX6_pitching 33 = .ok (.getfield 10, 3) := by decide +kernel
theorem dX6_pitching_36 : decode cX6_pitching 36 = .ok (.iload_n 1, 1) := by decide +kernel
theorem dX6_pitching_37 : decode cX6_pitching 37 = .ok (.invokevirtual 203, 3) := by decide +kernel
theorem dX6_pitching_40 : decode cX6_pitching 40 = .ok (.ireturn, 1) := by decide +kernel
set_option maxRecDepth 20000 in
theorem ggX6_quick_X4_hasWay : GoodIn wsX6_quick wsX4_hasWay := goodIn_r _ [13, 14, 104, 105, 106, 107, 108, 109, 110, 111, 112, 113] (by decide +kernel) (by decide +kernel)
set_option maxRecDepth 20000 in
theorem gX6_quick_X4_hasWay_n112 : GoodIn wsX6_quick (wsX4_hasWay) := ggX6_quick_X4_hasWay
set_option maxRecDepth 20000 in
theorem ggX6_quick_X6_refuse : GoodIn wsX6_quick wsX6_refuse := goodIn_r _ [19, 20, 97, 98, 99, 100, 101, 102, 103] (by decide +kernel) (by decide +kernel)
set_option maxRecDepth 20000 in
theorem gX6_quick_X6_refuse : GoodIn wsX6_quick (wsV RX6 44 RX6 yX6_refuse wsX6_refuse) := goodIn_app (goodIn_of _ (by decide +kernel)) ggX6_quick_X6_refuse
set_option maxRecDepth 20000 in
theorem ggX6_quick_X4_become : GoodIn wsX6_quick wsX4_become := goodIn_r _ [23, 24, 25, 26, 27, 28, 29, 30, 31, 32, 33, 34, 35, 14, 36, 37, 38, 39, 40, 41, 42, 43, 44, 104, 105, 106, 107, 108, 109, 110, 111, 112, 113, 114, 115, 116, 117] (by decide +kernel) (by decide +kernel)
set_option maxRecDepth 20000 in
theorem gX6_quick_X4_become_n66 : GoodIn wsX6_quick (wsX4_become) := ggX6_quick_X4_become
set_option maxRecDepth 20000 in
theorem ggX6_quick_X4_layBadly : GoodIn wsX6_quick wsX4_layBadly := goodIn_r _ [47, 34, 29, 32, 48, 7, 8, 9, 104, 105, 106, 107, 108, 109, 110, 111, 112, 113] (by decide +kernel) (by decide +kernel)
set_option maxRecDepth 20000 in
theorem gX6_quick_X4_layBadly_n212 : GoodIn wsX6_quick (wsX4_layBadly) := ggX6_quick_X4_layBadly
set_option maxRecDepth 20000 in
theorem ggX6_quick_X4_pitchingMinutes : GoodIn wsX6_quick wsX4_pitchingMinutes := goodIn_r _ [51, 52, 53, 54, 11, 55, 34, 29, 104, 105, 106, 107, 108, 109, 110, 111, 112, 113] (by decide +kernel) (by decide +kernel)
set_option maxRecDepth 20000 in
theorem gX6_quick_X4_pitchingMinutes_n203 : GoodIn wsX6_quick (wsX4_pitchingMinutes) := ggX6_quick_X4_pitchingMinutes
set_option maxRecDepth 20000 in
theorem ggX6_quick_X4_holds : GoodIn wsX6_quick wsX4_holds := goodIn_r _ [58, 59, 60, 61, 11, 62, 14, 63, 64, 65, 66, 34, 67, 68, 69, 70, 71, 72, 73, 74, 24, 75, 76, 77, 78, 79, 80, 81, 30, 82, 83, 84, 85, 86, 87, 88, 89, 33, 31, 90, 91, 8, 92, 93, 94, 95, 96, 32, 35, 104, 105, 106, 107, 108, 109, 110, 111, 112, 113, 114, 115, 116, 117] (by decide +kernel) (by decide +kernel)
set_option maxRecDepth 20000 in
theorem gX6_quick_X4_holds_n189 : GoodIn wsX6_quick (wsX4_holds) := ggX6_quick_X4_holds
theorem dX6_quick_0 : decode cX6_quick 0 = .ok (.aload_n 0, 1) := by decide +kernel
theorem dX6_quick_1 : decode cX6_quick 1 = .ok (.getfield 10, 3) := by decide +kernel
theorem dX6_quick_4 : decode cX6_quick 4 = .ok (.iload_n 1, 1) := by decide +kernel
theorem dX6_quick_5 : decode cX6_quick 5 = .ok (.invokevirtual 112, 3) := by decide +kernel
theorem dX6_quick_8 : decode cX6_quick 8 = .ok (.ifCond .ne 9, 3) := by decide +kernel
theorem dX6_quick_11 : decode cX6_quick 11 = .ok (.aload_n 0, 1) := by decide +kernel
theorem dX6_quick_12 : decode cX6_quick 12 = .ok (.iconst (-1), 1) := by decide +kernel
theorem dX6_quick_13 : decode cX6_quick 13 = .ok (.invokevirtual 44, 3) := by decide +kernel
theorem dX6_quick_16 : decode cX6_quick 16 = .ok (.ireturn, 1) := by decide +kernel
theorem dX6_quick_17 : decode cX6_quick 17 = .ok (.bipush (-9), 2) := by decide +kernel
theorem dX6_quick_19 : decode cX6_quick 19 = .ok (.istore_n 2, 1) := by decide +kernel
theorem dX6_quick_20 : decode cX6_quick 20 = .ok (.ldc 206, 2) := by decide +kernel
theorem dX6_quick_22 : decode cX6_quick 22 = .ok (.istore_n 3, 1) := by decide +kernel
theorem dX6_quick_23 : decode cX6_quick 23 = .ok (.getstatic 167, 3) := by decide +kernel
theorem dX6_quick_26 : decode cX6_quick 26 = .ok (.iconst 2, 1) := by decide +kernel
theorem dX6_quick_27 : decode cX6_quick 27 = .ok (.iaload, 1) := by decide +kernel
theorem dX6_quick_28 : decode cX6_quick 28 = .ok (.istore 4, 2) := by decide +kernel
theorem dX6_quick_30 : decode cX6_quick 30 = .ok (.iload 4, 2) := by decide +kernel
theorem dX6_quick_32 : decode cX6_quick 32 = .ok (.getstatic 170, 3) := by decide +kernel
theorem dX6_quick_35 : decode cX6_quick 35 = .ok (.iconst 2, 1) := by decide +kernel
theorem dX6_quick_36 : decode cX6_quick 36 = .ok (.iaload, 1) := by decide +kernel
theorem dX6_quick_37 : decode cX6_quick 37 = .ok (.if_icmp .gt 77, 3) := by decide +kernel
theorem dX6_quick_40 : decode cX6_quick 40 = .ok (.aload_n 0, 1) := by decide +kernel
theorem dX6_quick_41 : decode cX6_quick 41 = .ok (.getfield 16, 3) := by decide +kernel
theorem dX6_quick_44 : decode cX6_quick 44 = .ok (.aload_n 0, 1) := by decide +kernel
theorem dX6_quick_45 : decode cX6_quick 45 = .ok (.getfield 10, 3) := by decide +kernel
theorem dX6_quick_48 : decode cX6_quick 48 = .ok (.invokevirtual 66, 3) := by decide +kernel
theorem dX6_quick_51 : decode cX6_quick 51 = .ok (.aload_n 0, 1) := by decide +kernel
theorem dX6_quick_52 : decode cX6_quick 52 = .ok (.getfield 16, 3) := by decide +kernel
theorem dX6_quick_55 : decode cX6_quick 55 = .ok (.iconst 0, 1) := by decide +kernel
theorem dX6_quick_56 : decode cX6_quick 56 = .ok (.iload 4, 2) := by decide +kernel
theorem dX6_quick_58 : decode cX6_quick 58 = .ok (.aload_n 0, 1) := by decide +kernel
theorem dX6_quick_59 : decode cX6_quick 59 = .ok (.getfield 10, 3) := by decide +kernel
theorem dX6_quick_62 : decode cX6_quick 62 = .ok (.getfield 173, 3) := by decide +kernel
theorem dX6_quick_65 : decode cX6_quick 65 = .ok (.iconst 1, 1) := by decide +kernel
theorem dX6_quick_66 : decode cX6_quick 66 = .ok (.iaload, 1) := by decide +kernel
theorem dX6_quick_67 : decode cX6_quick 67 = .ok (.isub, 1) := by decide +kernel
theorem dX6_quick_68 : decode cX6_quick 68 = .ok (.invokestatic 207, 3) := by decide +kernel
theorem dX6_quick_71 : decode cX6_quick 71 = .ok (.invokevirtual 212, 3) := by decide +kernel
theorem dX6_quick_74 : decode cX6_quick 74 = .ok (.aload_n 0, 1) := by decide +kernel
theorem dX6_quick_75 : decode cX6_quick 75 = .ok (.getfield 10, 3) := by decide +kernel
theorem dX6_quick_78 : decode cX6_quick 78 = .ok (.iload 4, 2) := by decide +kernel
theorem dX6_quick_80 : decode cX6_quick 80 = .ok (.invokevirtual 203, 3) := by decide +kernel
theorem dX6_quick_83 : decode cX6_quick 83 = .ok (.istore 5, 2) := by decide +kernel
theorem dX6_quick_85 : decode cX6_quick 85 = .ok (.iload 5, 2) := by decide +kernel
theorem dX6_quick_87 : decode cX6_quick 87 = .ok (.iload_n 3, 1) := by decide +kernel
theorem dX6_quick_88 : decode cX6_quick 88 = .ok (.if_icmp .ge 20, 3) := by decide +kernel
theorem dX6_quick_91 : decode cX6_quick 91 = .ok (.aload_n 0, 1) := by decide +kernel
theorem dX6_quick_92 : decode cX6_quick 92 = .ok (.getfield 16, 3) := by decide +kernel
theorem dX6_quick_95 : decode cX6_quick 95 = .ok (.iload_n 1, 1) := by decide +kernel
theorem dX6_quick_96 : decode cX6_quick 96 = .ok (.invokevirtual 189, 3) := by decide +kernel
theorem dX6_quick_99 : decode cX6_quick 99 = .ok (.ifCond .eq 9, 3) := by decide +kernel
theorem dX6_quick_102 : decode cX6_quick 102 = .ok (.iload 4, 2) := by decide +kernel
theorem dX6_quick_104 : decode cX6_quick 104 = .ok (.istore_n 2, 1) := by decide +kernel
theorem dX6_quick_105 : decode cX6_quick 105 = .ok (.iload 5, 2) := by decide +kernel
theorem dX6_quick_107 : decode cX6_quick 107 = .ok (.istore_n 3, 1) := by decide +kernel
theorem dX6_quick_108 : decode cX6_quick 108 = .ok (.iinc 4 1, 3) := by decide +kernel
theorem dX6_quick_111 : decode cX6_quick 111 = .ok (.goto (-81), 3) := by decide +kernel
theorem dX6_quick_114 : decode cX6_quick 114 = .ok (.iload_n 2, 1) := by decide +kernel
theorem dX6_quick_115 : decode cX6_quick 115 = .ok (.ireturn, 1) := by decide +kernel
set_option maxRecDepth 20000 in
theorem ggX6_rounds_X6_refusalOfRounds : GoodIn wsX6_rounds wsX6_refusalOfRounds := goodIn_r _ [6, 1, 7, 8, 9, 10, 11, 12, 13, 14, 15, 16, 17, 18, 19, 20, 21, 22, 23, 24, 25, 26, 27, 28, 29, 30, 31, 32, 33, 34, 35, 36, 37, 38, 39, 40, 41, 42, 43, 44, 45, 46, 47, 48, 49, 50, 51, 52, 53, 54, 55, 56, 57, 58, 59, 60, 95, 96, 97, 98, 99, 100, 101, 102, 103, 104, 105, 106, 107, 108, 109, 110, 111, 112, 113, 114, 115] (by decide +kernel) (by decide +kernel)
set_option maxRecDepth 20000 in
theorem gX6_rounds_X6_refusalOfRounds : GoodIn wsX6_rounds (wsV RX6 215 RX6 yX6_refusalOfRounds wsX6_refusalOfRounds) := goodIn_app (goodIn_of _ (by decide +kernel)) ggX6_rounds_X6_refusalOfRounds
set_option maxRecDepth 20000 in
theorem ggX6_rounds_X6_refuse : GoodIn wsX6_rounds wsX6_refuse := goodIn_r _ [64, 65, 95, 96, 97, 98, 99, 100, 101] (by decide +kernel) (by decide +kernel)
set_option maxRecDepth 20000 in
theorem gX6_rounds_X6_refuse : GoodIn wsX6_rounds (wsV RX6 44 RX6 yX6_refuse wsX6_refuse) := goodIn_app (goodIn_of _ (by decide +kernel)) ggX6_rounds_X6_refuse
set_option maxRecDepth 20000 in
theorem ggX6_rounds_X4_sheavesHome : GoodIn wsX6_rounds wsX4_sheavesHome := goodIn_r _ [68, 60, 11, 69, 70, 71, 53, 72, 73, 74, 75, 76, 77, 78, 8, 79, 80, 81, 82, 83, 23, 84, 85, 86, 87, 88, 89, 90, 91, 92, 93, 94, 102, 103, 104, 105, 106, 107, 108, 109, 110, 111, 112, 113, 114, 115] (by decide +kernel) (by decide +kernel)
set_option maxRecDepth 20000 in
theorem gX6_rounds_X4_sheavesHome_n219 : GoodIn wsX6_rounds (wsX4_sheavesHome) := ggX6_rounds_X4_sheavesHome
theorem dX6_rounds_0 : decode cX6_rounds 0 = .ok (.aload_n 0, 1) := by decide +kernel
theorem dX6_rounds_1 : decode cX6_rounds 1 = .ok (.iload_n 1, 1) := by decide +kernel
theorem dX6_rounds_2 : decode cX6_rounds 2 = .ok (.iload_n 2, 1) := by decide +kernel
theorem dX6_rounds_3 : decode cX6_rounds 3 = .ok (.iload_n 3, 1) := by decide +kernel
theorem dX6_rounds_4 : decode cX6_rounds 4 = .ok (.iconst 4, 1) := by decide +kernel
theorem dX6_rounds_5 : decode cX6_rounds 5 = .ok (.invokevirtual 215, 3) := by decide +kernel
theorem dX6_rounds_8 : decode cX6_rounds 8 = .ok (.istore 4, 2) := by decide +kernel
theorem dX6_rounds_10 : decode cX6_rounds 10 = .ok (.iload 4, 2) := by decide +kernel
theorem dX6_rounds_12 : decode cX6_rounds 12 = .ok (.ifCond .eq 10, 3) := by decide +kernel
theorem dX6_rounds_15 : decode cX6_rounds 15 = .ok (.aload_n 0, 1) := by decide +kernel
theorem dX6_rounds_16 : decode cX6_rounds 16 = .ok (.iload 4, 2) := by decide +kernel
theorem dX6_rounds_18 : decode cX6_rounds 18 = .ok (.invokevirtual 44, 3) := by decide +kernel
theorem dX6_rounds_21 : decode cX6_rounds 21 = .ok (.ireturn, 1) := by decide +kernel
theorem dX6_rounds_22 : decode cX6_rounds 22 = .ok (.aload_n 0, 1) := by decide +kernel
theorem dX6_rounds_23 : decode cX6_rounds 23 = .ok (.getfield 10, 3) := by decide +kernel
theorem dX6_rounds_26 : decode cX6_rounds 26 = .ok (.iload_n 1, 1) := by decide +kernel
theorem dX6_rounds_27 : decode cX6_rounds 27 = .ok (.iload_n 2, 1) := by decide +kernel
theorem dX6_rounds_28 : decode cX6_rounds 28 = .ok (.iload_n 3, 1) := by decide +kernel
theorem dX6_rounds_29 : decode cX6_rounds 29 = .ok (.invokevirtual 219, 3) := by decide +kernel
theorem dX6_rounds_32 : decode cX6_rounds 32 = .ok (.ireturn, 1) := by decide +kernel
set_option maxRecDepth 20000 in
theorem ggX6_worth_X6_refusalOfRounds : GoodIn wsX6_worth wsX6_refusalOfRounds := goodIn_r _ [6, 1, 7, 8, 9, 10, 11, 12, 13, 14, 15, 16, 17, 18, 19, 20, 21, 22, 23, 24, 25, 26, 27, 28, 29, 30, 31, 32, 33, 34, 35, 36, 37, 38, 39, 40, 41, 42, 43, 44, 45, 46, 47, 48, 49, 50, 51, 52, 53, 54, 55, 56, 57, 58, 59, 60, 100, 101, 102, 103, 104, 105, 106, 107, 108, 109, 110, 111, 112, 113, 114, 115, 116, 117, 118, 119, 120] (by decide +kernel) (by decide +kernel)
set_option maxRecDepth 20000 in
theorem gX6_worth_X6_refusalOfRounds : GoodIn wsX6_worth (wsV RX6 215 RX6 yX6_refusalOfRounds wsX6_refusalOfRounds) := goodIn_app (goodIn_of _ (by decide +kernel)) ggX6_worth_X6_refusalOfRounds
set_option maxRecDepth 20000 in
theorem ggX6_worth_X6_refuseWide : GoodIn wsX6_worth wsX6_refuseWide := goodIn_r _ [64, 65, 66, 67, 68, 5, 69, 70, 100, 101, 102, 103, 104, 105, 106] (by decide +kernel) (by decide +kernel)
set_option maxRecDepth 20000 in
theorem gX6_worth_X6_refuseWide : GoodIn wsX6_worth (wsV RX6 130 RX6 yX6_refuseWide wsX6_refuseWide) := goodIn_app (goodIn_of _ (by decide +kernel)) ggX6_worth_X6_refuseWide
set_option maxRecDepth 20000 in
theorem ggX6_worth_X4_sheavesHome : GoodIn wsX6_worth wsX4_sheavesHome := goodIn_r _ [73, 60, 11, 74, 75, 76, 53, 77, 78, 79, 80, 81, 82, 83, 8, 84, 85, 86, 87, 88, 23, 89, 90, 91, 92, 93, 94, 95, 96, 97, 98, 99, 107, 108, 109, 110, 111, 112, 113, 114, 115, 116, 117, 118, 119, 120] (by decide +kernel) (by decide +kernel)
set_option maxRecDepth 20000 in
theorem gX6_worth_X4_sheavesHome_n219 : GoodIn wsX6_worth (wsX4_sheavesHome) := ggX6_worth_X4_sheavesHome
theorem dX6_worth_0 : decode cX6_worth 0 = .ok (.aload_n 0, 1) := by decide +kernel
theorem dX6_worth_1 : decode cX6_worth 1 = .ok (.iload_n 1, 1) := by decide +kernel
theorem dX6_worth_2 : decode cX6_worth 2 = .ok (.iload_n 2, 1) := by decide +kernel
theorem dX6_worth_3 : decode cX6_worth 3 = .ok (.iload_n 3, 1) := by decide +kernel
theorem dX6_worth_4 : decode cX6_worth 4 = .ok (.iconst 3, 1) := by decide +kernel
theorem dX6_worth_5 : decode cX6_worth 5 = .ok (.invokevirtual 215, 3) := by decide +kernel
theorem dX6_worth_8 : decode cX6_worth 8 = .ok (.istore 4, 2) := by decide +kernel
theorem dX6_worth_10 : decode cX6_worth 10 = .ok (.iload 4, 2) := by decide +kernel
theorem dX6_worth_12 : decode cX6_worth 12 = .ok (.ifCond .eq 10, 3) := by decide +kernel
theorem dX6_worth_15 : decode cX6_worth 15 = .ok (.aload_n 0, 1) := by decide +kernel
theorem dX6_worth_16 : decode cX6_worth 16 = .ok (.iload 4, 2) := by decide +kernel
theorem dX6_worth_18 : decode cX6_worth 18 = .ok (.invokevirtual 130, 3) := by decide +kernel
theorem dX6_worth_21 : decode cX6_worth 21 = .ok (.ireturn, 1) := by decide +kernel
theorem dX6_worth_22 : decode cX6_worth 22 = .ok (.aload_n 0, 1) := by decide +kernel
theorem dX6_worth_23 : decode cX6_worth 23 = .ok (.getfield 10, 3) := by decide +kernel
theorem dX6_worth_26 : decode cX6_worth 26 = .ok (.iload_n 1, 1) := by decide +kernel
theorem dX6_worth_27 : decode cX6_worth 27 = .ok (.iload_n 2, 1) := by decide +kernel
theorem dX6_worth_28 : decode cX6_worth 28 = .ok (.iconst 1, 1) := by decide +kernel
theorem dX6_worth_29 : decode cX6_worth 29 = .ok (.iadd, 1) := by decide +kernel
theorem dX6_worth_30 : decode cX6_worth 30 = .ok (.iload_n 3, 1) := by decide +kernel
theorem dX6_worth_31 : decode cX6_worth 31 = .ok (.invokevirtual 219, 3) := by decide +kernel
theorem dX6_worth_34 : decode cX6_worth 34 = .ok (.aload_n 0, 1) := by decide +kernel
theorem dX6_worth_35 : decode cX6_worth 35 = .ok (.getfield 10, 3) := by decide +kernel
theorem dX6_worth_38 : decode cX6_worth 38 = .ok (.iload_n 1, 1) := by decide +kernel
theorem dX6_worth_39 : decode cX6_worth 39 = .ok (.iload_n 2, 1) := by decide +kernel
theorem dX6_worth_40 : decode cX6_worth 40 = .ok (.iload_n 3, 1) := by decide +kernel
theorem dX6_worth_41 : decode cX6_worth 41 = .ok (.invokevirtual 219, 3) := by decide +kernel
theorem dX6_worth_44 : decode cX6_worth 44 = .ok (.isub, 1) := by decide +kernel
theorem dX6_worth_45 : decode cX6_worth 45 = .ok (.ireturn, 1) := by decide +kernel
set_option maxRecDepth 20000 in
theorem ggX6_refusalOfRounds_X4_hasWay : GoodIn wsX6_refusalOfRounds wsX4_hasWay := goodIn_r _ [5, 6, 63, 64, 65, 66, 67, 68, 69, 70, 71, 72] (by decide +kernel) (by decide +kernel)
set_option maxRecDepth 20000 in
theorem gX6_refusalOfRounds_X4_hasWay_n112 : GoodIn wsX6_refusalOfRounds (wsX4_hasWay) := ggX6_refusalOfRounds_X4_hasWay
set_option maxRecDepth 20000 in
theorem ggX6_refusalOfRounds_X4_holds : GoodIn wsX6_refusalOfRounds wsX4_holds := goodIn_r _ [9, 10, 11, 12, 3, 13, 6, 14, 15, 16, 17, 18, 19, 20, 21, 22, 23, 24, 25, 26, 27, 28, 29, 30, 31, 32, 33, 34, 35, 36, 37, 38, 39, 40, 41, 42, 43, 44, 45, 46, 47, 48, 49, 50, 51, 52, 53, 54, 55, 63, 64, 65, 66, 67, 68, 69, 70, 71, 72, 73, 74, 75, 76] (by decide +kernel) (by decide +kernel)
set_option maxRecDepth 20000 in
theorem gX6_refusalOfRounds_X4_holds_n189 : GoodIn wsX6_refusalOfRounds (wsX4_holds) := ggX6_refusalOfRounds_X4_holds
theorem dX6_refusalOfRounds_0 : decode cX6_refusalOfRounds 0 = .ok (.aload_n 0, 1) := by decide +kernel
theorem dX6_refusalOfRounds_1 : decode cX6_refusalOfRounds 1 = .ok (.getfield 10, 3) := by decide +kernel
theorem dX6_refusalOfRounds_4 : decode cX6_refusalOfRounds 4 = .ok (.iload_n 1, 1) := by decide +kernel
theorem dX6_refusalOfRounds_5 : decode cX6_refusalOfRounds 5 = .ok (.invokevirtual 112, 3) := by decide +kernel
theorem dX6_refusalOfRounds_8 : decode cX6_refusalOfRounds 8 = .ok (.ifCond .ne 5, 3) := by decide +kernel
theorem dX6_refusalOfRounds_11 : decode cX6_refusalOfRounds 11 = .ok (.iconst (-1), 1) := by decide +kernel
theorem dX6_refusalOfRounds_12 : decode cX6_refusalOfRounds 12 = .ok (.ireturn, 1) := by decide +kernel
theorem dX6_refusalOfRounds_13 : decode cX6_refusalOfRounds 13 = .ok (.iload_n 2, 1) := by decide +kernel
theorem dX6_refusalOfRounds_14 : decode cX6_refusalOfRounds 14 = .ok (.iconst 1, 1) := by decide +kernel
theorem dX6_refusalOfRounds_15 : decode cX6_refusalOfRounds 15 = .ok (.if_icmp .lt 7, 3) := by decide +kernel
theorem dX6_refusalOfRounds_18 : decode cX6_refusalOfRounds 18 = .ok (.iload_n 3, 1) := by decide +kernel
theorem dX6_refusalOfRounds_19 : decode cX6_refusalOfRounds 19 = .ok (.ifCond .ge 6, 3) := by decide +kernel
theorem dX6_refusalOfRounds_22 : decode cX6_refusalOfRounds 22 = .ok (.bipush (-4), 2) := by decide +kernel
theorem dX6_refusalOfRounds_24 : decode cX6_refusalOfRounds 24 = .ok (.ireturn, 1) := by decide +kernel
theorem dX6_refusalOfRounds_25 : decode cX6_refusalOfRounds 25 = .ok (.iload_n 2, 1) := by decide +kernel
theorem dX6_refusalOfRounds_26 : decode cX6_refusalOfRounds 26 = .ok (.iload 4, 2) := by decide +kernel
theorem dX6_refusalOfRounds_28 : decode cX6_refusalOfRounds 28 = .ok (.if_icmp .gt 10, 3) := by decide +kernel
theorem dX6_refusalOfRounds_31 : decode cX6_refusalOfRounds 31 = .ok (.iload_n 3, 1) := by decide +kernel
theorem dX6_refusalOfRounds_32 : decode cX6_refusalOfRounds 32 = .ok (.sipush 999, 3) := by decide +kernel
theorem dX6_refusalOfRounds_35 : decode cX6_refusalOfRounds 35 = .ok (.if_icmp .le 6, 3) := by decide +kernel
theorem dX6_refusalOfRounds_38 : decode cX6_refusalOfRounds 38 = .ok (.bipush (-6), 2) := by decide +kernel
theorem dX6_refusalOfRounds_40 : decode cX6_refusalOfRounds 40 = .ok (.ireturn, 1) := by decide +kernel
theorem dX6_refusalOfRounds_41 : decode cX6_refusalOfRounds 41 = .ok (.aload_n 0, 1) := by decide +kernel
theorem dX6_refusalOfRounds_42 : decode cX6_refusalOfRounds 42 = .ok (.getfield 10, 3) := by decide +kernel
theorem dX6_refusalOfRounds_45 : decode cX6_refusalOfRounds 45 = .ok (.getfield 99, 3) := by decide +kernel
theorem dX6_refusalOfRounds_48 : decode cX6_refusalOfRounds 48 = .ok (.ifCond .eq 14, 3) := by decide +kernel
theorem dX6_refusalOfRounds_51 : decode cX6_refusalOfRounds 51 = .ok (.aload_n 0, 1) := by decide +kernel
theorem dX6_refusalOfRounds_52 : decode cX6_refusalOfRounds 52 = .ok (.getfield 10, 3) := by decide +kernel
theorem dX6_refusalOfRounds_55 : decode cX6_refusalOfRounds 55 = .ok (.iload_n 1, 1) := by decide +kernel
theorem dX6_refusalOfRounds_56 : decode cX6_refusalOfRounds 56 = .ok (.invokevirtual 189, 3) := by decide +kernel
theorem dX6_refusalOfRounds_59 : decode cX6_refusalOfRounds 59 = .ok (.ifCond .ne 8, 3) := by decide +kernel
theorem dX6_refusalOfRounds_62 : decode cX6_refusalOfRounds 62 = .ok (.bipush (-3), 2) := by decide +kernel
theorem dX6_refusalOfRounds_64 : decode cX6_refusalOfRounds 64 = .ok (.goto 4, 3) := by decide +kernel
theorem dX6_refusalOfRounds_67 : decode cX6_refusalOfRounds 67 = .ok (.iconst 0, 1) := by decide +kernel
theorem dX6_refusalOfRounds_68 : decode cX6_refusalOfRounds 68 = .ok (.ireturn, 1) := by decide +kernel
set_option maxRecDepth 20000 in
theorem ggX6_thunder_X4_hasWay : GoodIn wsX6_thunder wsX4_hasWay := goodIn_r _ [9, 10, 41, 42, 43, 44, 45, 46, 47, 48, 49, 50] (by decide +kernel) (by decide +kernel)
set_option maxRecDepth 20000 in
theorem gX6_thunder_X4_hasWay_n112 : GoodIn wsX6_thunder (wsX4_hasWay) := ggX6_thunder_X4_hasWay
set_option maxRecDepth 20000 in
theorem ggX6_thunder_X6_refuseLong : GoodIn wsX6_thunder wsX6_refuseLong := goodIn_r _ [15, 16, 17, 18, 19, 14, 20, 21, 34, 35, 36, 37, 38, 39, 40] (by decide +kernel) (by decide +kernel)
set_option maxRecDepth 20000 in
theorem gX6_thunder_X6_refuseLong : GoodIn wsX6_thunder (wsV RX6 222 RX6 yX6_refuseLong wsX6_refuseLong) := goodIn_app (goodIn_of _ (by decide +kernel)) ggX6_thunder_X6_refuseLong
set_option maxRecDepth 20000 in
theorem ggX6_thunder_X5_allMinutes : GoodIn wsX6_thunder wsX5_allMinutes := goodIn_r _ [25, 26, 27, 51, 52, 53, 54] (by decide +kernel) (by decide +kernel)
set_option maxRecDepth 20000 in
theorem gX6_thunder_X5_allMinutes_n200 : GoodIn wsX6_thunder (wsX5_allMinutes) := ggX6_thunder_X5_allMinutes
set_option maxRecDepth 20000 in
theorem ggX6_thunder_X6_commonDivisor : GoodIn wsX6_thunder wsX6_commonDivisor := goodIn_r _ [30] (by decide +kernel) (by decide +kernel)
set_option maxRecDepth 20000 in
theorem gX6_thunder_X6_commonDivisor : GoodIn wsX6_thunder (va_wsS RX6 229 yX6_commonDivisor wsX6_commonDivisor) := goodIn_app (goodIn_of _ (by decide +kernel)) ggX6_thunder_X6_commonDivisor
set_option maxRecDepth 20000 in
theorem ggX6_thunder_X6_power : GoodIn wsX6_thunder wsX6_power := goodIn_r _ [33] (by decide +kernel) (by decide +kernel)
set_option maxRecDepth 20000 in
theorem gX6_thunder_X6_power : GoodIn wsX6_thunder (va_wsS RX6 232 yX6_power wsX6_power) := goodIn_app (goodIn_of _ (by decide +kernel)) ggX6_thunder_X6_power
theorem dX6_thunder_0 : decode cX6_thunder 0 = .ok (.aload_n 0, 1) := by decide +kernel
theorem dX6_thunder_1 : decode cX6_thunder 1 = .ok (.getfield 10, 3) := by decide +kernel
theorem dX6_thunder_4 : decode cX6_thunder 4 = .ok (.iload_n 1, 1) := by decide +kernel
theorem dX6_thunder_5 : decode cX6_thunder 5 = .ok (.invokevirtual 112, 3) := by decide +kernel
theorem dX6_thunder_8 : decode cX6_thunder 8 = .ok (.ifCond .ne 9, 3) := by decide +kernel
theorem dX6_thunder_11 : decode cX6_thunder 11 = .ok (.aload_n 0, 1) := by decide +kernel
theorem dX6_thunder_12 : decode cX6_thunder 12 = .ok (.iconst (-1), 1) := by decide +kernel
theorem dX6_thunder_13 : decode cX6_thunder 13 = .ok (.invokevirtual 222, 3) := by decide +kernel
theorem dX6_thunder_16 : decode cX6_thunder 16 = .ok (.lreturn, 1) := by decide +kernel
theorem dX6_thunder_17 : decode cX6_thunder 17 = .ok (.iload_n 2, 1) := by decide +kernel
theorem dX6_thunder_18 : decode cX6_thunder 18 = .ok (.ifCond .ge 10, 3) := by decide +kernel
theorem dX6_thunder_21 : decode cX6_thunder 21 = .ok (.aload_n 0, 1) := by decide +kernel
theorem dX6_thunder_22 : decode cX6_thunder 22 = .ok (.bipush (-4), 2) := by decide +kernel
theorem dX6_thunder_24 : decode cX6_thunder 24 = .ok (.invokevirtual 222, 3) := by decide +kernel
theorem dX6_thunder_27 : decode cX6_thunder 27 = .ok (.lreturn, 1) := by decide +kernel
theorem dX6_thunder_28 : decode cX6_thunder 28 = .ok (.iload_n 2, 1) := by decide +kernel
theorem dX6_thunder_29 : decode cX6_thunder 29 = .ok (.bipush 9, 2) := by decide +kernel
theorem dX6_thunder_31 : decode cX6_thunder 31 = .ok (.if_icmp .le 10, 3) := by decide +kernel
theorem dX6_thunder_34 : decode cX6_thunder 34 = .ok (.aload_n 0, 1) := by decide +kernel
theorem dX6_thunder_35 : decode cX6_thunder 35 = .ok (.bipush (-6), 2) := by decide +kernel
theorem dX6_thunder_37 : decode cX6_thunder 37 = .ok (.invokevirtual 222, 3) := by decide +kernel
theorem dX6_thunder_40 : decode cX6_thunder 40 = .ok (.lreturn, 1) := by decide +kernel
theorem dX6_thunder_41 : decode cX6_thunder 41 = .ok (.iload_n 3, 1) := by decide +kernel
theorem dX6_thunder_42 : decode cX6_thunder 42 = .ok (.ifCond .lt 8, 3) := by decide +kernel
theorem dX6_thunder_45 : decode cX6_thunder 45 = .ok (.iload_n 3, 1) := by decide +kernel
theorem dX6_thunder_46 : decode cX6_thunder 46 = .ok (.iconst 1, 1) := by decide +kernel
theorem dX6_thunder_47 : decode cX6_thunder 47 = .ok (.if_icmp .le 10, 3) := by decide +kernel
theorem dX6_thunder_50 : decode cX6_thunder 50 = .ok (.aload_n 0, 1) := by decide +kernel
theorem dX6_thunder_51 : decode cX6_thunder 51 = .ok (.bipush (-2), 2) := by decide +kernel
theorem dX6_thunder_53 : decode cX6_thunder 53 = .ok (.invokevirtual 222, 3) := by decide +kernel
theorem dX6_thunder_56 : decode cX6_thunder 56 = .ok (.lreturn, 1) := by decide +kernel
theorem dX6_thunder_57 : decode cX6_thunder 57 = .ok (.bipush 12, 2) := by decide +kernel
theorem dX6_thunder_59 : decode cX6_thunder 59 = .ok (.aload_n 0, 1) := by decide +kernel
theorem dX6_thunder_60 : decode cX6_thunder 60 = .ok (.getfield 10, 3) := by decide +kernel
theorem dX6_thunder_63 : decode cX6_thunder 63 = .ok (.getfield 115, 3) := by decide +kernel
theorem dX6_thunder_66 : decode cX6_thunder 66 = .ok (.iload_n 1, 1) := by decide +kernel
theorem dX6_thunder_67 : decode cX6_thunder 67 = .ok (.aaload, 1) := by decide +kernel
theorem dX6_thunder_68 : decode cX6_thunder 68 = .ok (.invokevirtual 200, 3) := by decide +kernel
theorem dX6_thunder_71 : decode cX6_thunder 71 = .ok (.invokestatic 226, 3) := by decide +kernel
theorem dX6_thunder_74 : decode cX6_thunder 74 = .ok (.istore 4, 2) := by decide +kernel
theorem dX6_thunder_76 : decode cX6_thunder 76 = .ok (.bipush 10, 2) := by decide +kernel
theorem dX6_thunder_78 : decode cX6_thunder 78 = .ok (.iload_n 2, 1) := by decide +kernel
theorem dX6_thunder_79 : decode cX6_thunder 79 = .ok (.isub, 1) := by decide +kernel
theorem dX6_thunder_80 : decode cX6_thunder 80 = .ok (.invokestatic 229, 3) := by decide +kernel
theorem dX6_thunder_83 : decode cX6_thunder 83 = .ok (.istore 5, 2) := by decide +kernel
theorem dX6_thunder_85 : decode cX6_thunder 85 = .ok (.iload_n 3, 1) := by decide +kernel
theorem dX6_thunder_86 : decode cX6_thunder 86 = .ok (.ifCond .ne 10, 3) := by decide +kernel
theorem dX6_thunder_89 : decode cX6_thunder 89 = .ok (.bipush 10, 2) := by decide +kernel
theorem dX6_thunder_91 : decode cX6_thunder 91 = .ok (.iload_n 2, 1) := by decide +kernel
theorem dX6_thunder_92 : decode cX6_thunder 92 = .ok (.isub, 1) := by decide +kernel
theorem dX6_thunder_93 : decode cX6_thunder 93 = .ok (.goto 5, 3) := by decide +kernel
theorem dX6_thunder_96 : decode cX6_thunder 96 = .ok (.bipush 10, 2) := by decide +kernel
theorem dX6_thunder_98 : decode cX6_thunder 98 = .ok (.iload 5, 2) := by decide +kernel
theorem dX6_thunder_100 : decode cX6_thunder 100 = .ok (.idiv, 1) := by decide +kernel
theorem dX6_thunder_101 : decode cX6_thunder 101 = .ok (.iload 4, 2) := by decide +kernel
theorem dX6_thunder_103 : decode cX6_thunder 103 = .ok (.invokestatic 232, 3) := by decide +kernel
theorem dX6_thunder_106 : decode cX6_thunder 106 = .ok (.lreturn, 1) := by decide +kernel
theorem dX6_commonDivisor_0 : decode cX6_commonDivisor 0 = .ok (.bipush 10, 2) := by decide +kernel
theorem dX6_commonDivisor_2 : decode cX6_commonDivisor 2 = .ok (.istore_n 1, 1) := by decide +kernel
theorem dX6_commonDivisor_3 : decode cX6_commonDivisor 3 = .ok (.iload_n 1, 1) := by decide +kernel
theorem dX6_commonDivisor_4 : decode cX6_commonDivisor 4 = .ok (.iconst 1, 1) := by decide +kernel
theorem dX6_commonDivisor_5 : decode cX6_commonDivisor 5 = .ok (.if_icmp .le 24, 3) := by decide +kernel
theorem dX6_commonDivisor_8 : decode cX6_commonDivisor 8 = .ok (.bipush 10, 2) := by decide +kernel
theorem dX6_commonDivisor_10 : decode cX6_commonDivisor 10 = .ok (.iload_n 1, 1) := by decide +kernel
theorem dX6_commonDivisor_11 : decode cX6_commonDivisor 11 = .ok (.irem, 1) := by decide +kernel
theorem dX6_commonDivisor_12 : decode cX6_commonDivisor 12 = .ok (.ifCond .ne 11, 3) := by decide +kernel
theorem dX6_commonDivisor_15 : decode cX6_commonDivisor 15 = .ok (.iload_n 0, 1) := by decide +kernel
theorem dX6_commonDivisor_16 : decode cX6_commonDivisor 16 = .ok (.iload_n 1, 1) := by decide +kernel
theorem dX6_commonDivisor_17 : decode cX6_commonDivisor 17 = .ok (.irem, 1) := by decide +kernel
theorem dX6_commonDivisor_18 : decode cX6_commonDivisor 18 = .ok (.ifCond .ne 5, 3) := by decide +kernel
theorem dX6_commonDivisor_21 : decode cX6_commonDivisor 21 = .ok (.iload_n 1, 1) := by decide +kernel
theorem dX6_commonDivisor_22 : decode cX6_commonDivisor 22 = .ok (.ireturn, 1) := by decide +kernel
theorem dX6_commonDivisor_23 : decode cX6_commonDivisor 23 = .ok (.iinc 1 (-1), 3) := by decide +kernel
theorem dX6_commonDivisor_26 : decode cX6_commonDivisor 26 = .ok (.goto (-23), 3) := by decide +kernel
theorem dX6_commonDivisor_29 : decode cX6_commonDivisor 29 = .ok (.iconst 1, 1) := by decide +kernel
theorem dX6_commonDivisor_30 : decode cX6_commonDivisor 30 = .ok (.ireturn, 1) := by decide +kernel
theorem dX6_power_0 : decode cX6_power 0 = .ok (.lconst 1, 1) := by decide +kernel
theorem dX6_power_1 : decode cX6_power 1 = .ok (.lstore_n 2, 1) := by decide +kernel
theorem dX6_power_2 : decode cX6_power 2 = .ok (.iconst 0, 1) := by decide +kernel
theorem dX6_power_3 : decode cX6_power 3 = .ok (.istore 4, 2) := by decide +kernel
theorem dX6_power_5 : decode cX6_power 5 = .ok (.iload 4, 2) := by decide +kernel
theorem dX6_power_7 : decode cX6_power 7 = .ok (.iload_n 1, 1) := by decide +kernel
theorem dX6_power_8 : decode cX6_power 8 = .ok (.if_icmp .ge 14, 3) := by decide +kernel
theorem dX6_power_11 : decode cX6_power 11 = .ok (.lload_n 2, 1) := by decide +kernel
theorem dX6_power_12 : decode cX6_power 12 = .ok (.iload_n 0, 1) := by decide +kernel
theorem dX6_power_13 : decode cX6_power 13 = .ok (.i2l, 1) := by decide +kernel
theorem dX6_power_14 : decode cX6_power 14 = .ok (.lmul, 1) := by decide +kernel
theorem dX6_power_15 : decode cX6_power 15 = .ok (.lstore_n 2, 1) := by decide +kernel
theorem dX6_power_16 : decode cX6_power 16 = .ok (.iinc 4 1, 3) := by decide +kernel
theorem dX6_power_19 : decode cX6_power 19 = .ok (.goto (-14), 3) := by decide +kernel
theorem dX6_power_22 : decode cX6_power 22 = .ok (.lload_n 2, 1) := by decide +kernel
theorem dX6_power_23 : decode cX6_power 23 = .ok (.lreturn, 1) := by decide +kernel
set_option maxRecDepth 20000 in
theorem ggX6_fell_X4_hasPiece : GoodIn wsX6_fell wsX4_hasPiece := goodIn_r _ [5, 6, 7, 8, 9, 3, 10, 61, 62, 63, 64, 65, 66, 67, 68, 69, 70, 71, 72, 73, 74] (by decide +kernel) (by decide +kernel)
set_option maxRecDepth 20000 in
theorem gX6_fell_X4_hasPiece_n157 : GoodIn wsX6_fell (wsX4_hasPiece) := ggX6_fell_X4_hasPiece
set_option maxRecDepth 20000 in
theorem ggX6_fell_X6_refuse : GoodIn wsX6_fell wsX6_refuse := goodIn_r _ [15, 16, 54, 55, 56, 57, 58, 59, 60] (by decide +kernel) (by decide +kernel)
set_option maxRecDepth 20000 in
theorem gX6_fell_X6_refuse : GoodIn wsX6_fell (wsV RX6 44 RX6 yX6_refuse wsX6_refuse) := goodIn_app (goodIn_of _ (by decide +kernel)) ggX6_fell_X6_refuse
set_option maxRecDepth 20000 in
theorem ggX6_fell_X4_slipsAt : GoodIn wsX6_fell wsX4_slipsAt := goodIn_r _ [19, 6, 20, 21, 22, 23, 3, 24, 25, 26, 27, 28, 29, 30, 31, 32, 33, 34, 35, 36, 37, 38, 39, 40, 41, 42, 43, 44, 45, 46, 47, 48, 49, 50, 51, 52, 53, 61, 62, 63, 64, 65, 66, 67, 68, 69, 70, 71, 72, 73, 74] (by decide +kernel) (by decide +kernel)
set_option maxRecDepth 20000 in
theorem gX6_fell_X4_slipsAt_n236 : GoodIn wsX6_fell (wsX4_slipsAt) := ggX6_fell_X4_slipsAt
theorem dX6_fell_0 : decode cX6_fell 0 = .ok (.aload_n 0, 1) := by decide +kernel
theorem dX6_fell_1 : decode cX6_fell 1 = .ok (.getfield 10, 3) := by decide +kernel
theorem dX6_fell_4 : decode cX6_fell 4 = .ok (.iload_n 1, 1) := by decide +kernel
theorem dX6_fell_5 : decode cX6_fell 5 = .ok (.iload_n 2, 1) := by decide +kernel
theorem dX6_fell_6 : decode cX6_fell 6 = .ok (.invokevirtual 157, 3) := by decide +kernel
theorem dX6_fell_9 : decode cX6_fell 9 = .ok (.ifCond .ne 9, 3) := by decide +kernel
theorem dX6_fell_12 : decode cX6_fell 12 = .ok (.aload_n 0, 1) := by decide +kernel
theorem dX6_fell_13 : decode cX6_fell 13 = .ok (.iconst (-1), 1) := by decide +kernel
theorem dX6_fell_14 : decode cX6_fell 14 = .ok (.invokevirtual 44, 3) := by decide +kernel
theorem dX6_fell_17 : decode cX6_fell 17 = .ok (.ireturn, 1) := by decide +kernel
theorem dX6_fell_18 : decode cX6_fell 18 = .ok (.iconst 0, 1) := by decide +kernel
theorem dX6_fell_19 : decode cX6_fell 19 = .ok (.istore_n 3, 1) := by decide +kernel
theorem dX6_fell_20 : decode cX6_fell 20 = .ok (.iconst 0, 1) := by decide +kernel
theorem dX6_fell_21 : decode cX6_fell 21 = .ok (.istore 4, 2) := by decide +kernel
theorem dX6_fell_23 : decode cX6_fell 23 = .ok (.iload 4, 2) := by decide +kernel
theorem dX6_fell_25 : decode cX6_fell 25 = .ok (.aload_n 0, 1) := by decide +kernel
theorem dX6_fell_26 : decode cX6_fell 26 = .ok (.getfield 10, 3) := by decide +kernel
theorem dX6_fell_29 : decode cX6_fell 29 = .ok (.getfield 99, 3) := by decide +kernel
theorem dX6_fell_32 : decode cX6_fell 32 = .ok (.if_icmp .ge 30, 3) := by decide +kernel
theorem dX6_fell_35 : decode cX6_fell 35 = .ok (.aload_n 0, 1) := by decide +kernel
theorem dX6_fell_36 : decode cX6_fell 36 = .ok (.getfield 10, 3) := by decide +kernel
theorem dX6_fell_39 : decode cX6_fell 39 = .ok (.iload_n 1, 1) := by decide +kernel
theorem dX6_fell_40 : decode cX6_fell 40 = .ok (.iload_n 2, 1) := by decide +kernel
theorem dX6_fell_41 : decode cX6_fell 41 = .ok (.iload 4, 2) := by decide +kernel
theorem dX6_fell_43 : decode cX6_fell 43 = .ok (.invokevirtual 236, 3) := by decide +kernel
theorem dX6_fell_46 : decode cX6_fell 46 = .ok (.ifCond .eq 10, 3) := by decide +kernel
theorem dX6_fell_49 : decode cX6_fell 49 = .ok (.iload_n 3, 1) := by decide +kernel
theorem dX6_fell_50 : decode cX6_fell 50 = .ok (.iconst 1, 1) := by decide +kernel
theorem dX6_fell_51 : decode cX6_fell 51 = .ok (.iload 4, 2) := by decide +kernel
theorem dX6_fell_53 : decode cX6_fell 53 = .ok (.ishl, 1) := by decide +kernel
theorem dX6_fell_54 : decode cX6_fell 54 = .ok (.ior, 1) := by decide +kernel
theorem dX6_fell_55 : decode cX6_fell 55 = .ok (.istore_n 3, 1) := by decide +kernel
theorem dX6_fell_56 : decode cX6_fell 56 = .ok (.iinc 4 1, 3) := by decide +kernel
theorem dX6_fell_59 : decode cX6_fell 59 = .ok (.goto (-36), 3) := by decide +kernel
theorem dX6_fell_62 : decode cX6_fell 62 = .ok (.iload_n 3, 1) := by decide +kernel
theorem dX6_fell_63 : decode cX6_fell 63 = .ok (.ireturn, 1) := by decide +kernel
set_option maxRecDepth 20000 in
theorem ggX6_whose_X4_hasPiece : GoodIn wsX6_whose wsX4_hasPiece := goodIn_r _ [6, 7, 8, 9, 10, 4, 11, 62, 63, 64, 65, 66, 67, 68, 69, 70, 71, 72, 73, 74, 75] (by decide +kernel) (by decide +kernel)
set_option maxRecDepth 20000 in
theorem gX6_whose_X4_hasPiece_n157 : GoodIn wsX6_whose (wsX4_hasPiece) := ggX6_whose_X4_hasPiece
set_option maxRecDepth 20000 in
theorem ggX6_whose_X6_refuse : GoodIn wsX6_whose wsX6_refuse := goodIn_r _ [16, 17, 55, 56, 57, 58, 59, 60, 61] (by decide +kernel) (by decide +kernel)
set_option maxRecDepth 20000 in
theorem gX6_whose_X6_refuse : GoodIn wsX6_whose (wsV RX6 44 RX6 yX6_refuse wsX6_refuse) := goodIn_app (goodIn_of _ (by decide +kernel)) ggX6_whose_X6_refuse
set_option maxRecDepth 20000 in
theorem ggX6_whose_X4_shiftOf : GoodIn wsX6_whose wsX4_shiftOf := goodIn_r _ [20, 7, 21, 22, 23, 24, 25, 26, 27, 62, 63, 64, 65, 66, 67, 68, 69, 70, 71, 72, 73, 74, 75] (by decide +kernel) (by decide +kernel)
set_option maxRecDepth 20000 in
theorem gX6_whose_X4_shiftOf_n176 : GoodIn wsX6_whose (wsX4_shiftOf) := ggX6_whose_X4_shiftOf
set_option maxRecDepth 20000 in
theorem ggX6_whose_X4_strengthOf : GoodIn wsX6_whose wsX4_strengthOf := goodIn_r _ [30, 31, 32, 62, 63, 64, 65, 66, 67, 68, 69, 70, 71] (by decide +kernel) (by decide +kernel)
set_option maxRecDepth 20000 in
theorem gX6_whose_X4_strengthOf_n239 : GoodIn wsX6_whose (wsX4_strengthOf) := ggX6_whose_X4_strengthOf
set_option maxRecDepth 20000 in
theorem ggX6_whose_X4_slipsAt : GoodIn wsX6_whose wsX4_slipsAt := goodIn_r _ [35, 7, 36, 37, 38, 39, 4, 40, 41, 42, 43, 44, 45, 46, 47, 48, 27, 49, 50, 51, 52, 53, 18, 19, 20, 21, 22, 23, 24, 25, 26, 54, 28, 29, 30, 31, 32, 62, 63, 64, 65, 66, 67, 68, 69, 70, 71, 72, 73, 74, 75] (by decide +kernel) (by decide +kernel)
set_option maxRecDepth 20000 in
theorem gX6_whose_X4_slipsAt_n236 : GoodIn wsX6_whose (wsX4_slipsAt) := ggX6_whose_X4_slipsAt
theorem dX6_whose_0 : decode cX6_whose 0 = .ok (.aload_n 0, 1) := by decide +kernel
theorem dX6_whose_1 : decode cX6_whose 1 = .ok (.getfield 10, 3) := by decide +kernel
theorem dX6_whose_4 : decode cX6_whose 4 = .ok (.iload_n 1, 1) := by decide +kernel
theorem dX6_whose_5 : decode cX6_whose 5 = .ok (.iload_n 2, 1) := by decide +kernel
theorem dX6_whose_6 : decode cX6_whose 6 = .ok (.invokevirtual 157, 3) := by decide +kernel
theorem dX6_whose_9 : decode cX6_whose 9 = .ok (.ifCond .ne 9, 3) := by decide +kernel
theorem dX6_whose_12 : decode cX6_whose 12 = .ok (.aload_n 0, 1) := by decide +kernel
theorem dX6_whose_13 : decode cX6_whose 13 = .ok (.iconst (-1), 1) := by decide +kernel
theorem dX6_whose_14 : decode cX6_whose 14 = .ok (.invokevirtual 44, 3) := by decide +kernel
theorem dX6_whose_17 : decode cX6_whose 17 = .ok (.ireturn, 1) := by decide +kernel
theorem dX6_whose_18 : decode cX6_whose 18 = .ok (.bipush (-9), 2) := by decide +kernel
theorem dX6_whose_20 : decode cX6_whose 20 = .ok (.istore_n 3, 1) := by decide +kernel
theorem dX6_whose_21 : decode cX6_whose 21 = .ok (.ldc 206, 2) := by decide +kernel
theorem dX6_whose_23 : decode cX6_whose 23 = .ok (.istore 4, 2) := by decide +kernel
theorem dX6_whose_25 : decode cX6_whose 25 = .ok (.iconst 0, 1) := by decide +kernel
theorem dX6_whose_26 : decode cX6_whose 26 = .ok (.istore 5, 2) := by decide +kernel
theorem dX6_whose_28 : decode cX6_whose 28 = .ok (.iload 5, 2) := by decide +kernel
theorem dX6_whose_30 : decode cX6_whose 30 = .ok (.aload_n 0, 1) := by decide +kernel
theorem dX6_whose_31 : decode cX6_whose 31 = .ok (.getfield 10, 3) := by decide +kernel
theorem dX6_whose_34 : decode cX6_whose 34 = .ok (.getfield 99, 3) := by decide +kernel
theorem dX6_whose_37 : decode cX6_whose 37 = .ok (.if_icmp .ge 60, 3) := by decide +kernel
theorem dX6_whose_40 : decode cX6_whose 40 = .ok (.aload_n 0, 1) := by decide +kernel
theorem dX6_whose_41 : decode cX6_whose 41 = .ok (.getfield 10, 3) := by decide +kernel
theorem dX6_whose_44 : decode cX6_whose 44 = .ok (.iload_n 1, 1) := by decide +kernel
theorem dX6_whose_45 : decode cX6_whose 45 = .ok (.iload_n 2, 1) := by decide +kernel
theorem dX6_whose_46 : decode cX6_whose 46 = .ok (.iload 5, 2) := by decide +kernel
theorem dX6_whose_48 : decode cX6_whose 48 = .ok (.invokevirtual 176, 3) := by decide +kernel
theorem dX6_whose_51 : decode cX6_whose 51 = .ok (.aload_n 0, 1) := by decide +kernel
theorem dX6_whose_52 : decode cX6_whose 52 = .ok (.getfield 10, 3) := by decide +kernel
theorem dX6_whose_55 : decode cX6_whose 55 = .ok (.iload 5, 2) := by decide +kernel
theorem dX6_whose_57 : decode cX6_whose 57 = .ok (.invokevirtual 239, 3) := by decide +kernel
theorem dX6_whose_60 : decode cX6_whose 60 = .ok (.isub, 1) := by decide +kernel
theorem dX6_whose_61 : decode cX6_whose 61 = .ok (.istore 6, 2) := by decide +kernel
theorem dX6_whose_63 : decode cX6_whose 63 = .ok (.aload_n 0, 1) := by decide +kernel
theorem dX6_whose_64 : decode cX6_whose 64 = .ok (.getfield 10, 3) := by decide +kernel
theorem dX6_whose_67 : decode cX6_whose 67 = .ok (.iload_n 1, 1) := by decide +kernel
theorem dX6_whose_68 : decode cX6_whose 68 = .ok (.iload_n 2, 1) := by decide +kernel
theorem dX6_whose_69 : decode cX6_whose 69 = .ok (.iload 5, 2) := by decide +kernel
theorem dX6_whose_71 : decode cX6_whose 71 = .ok (.invokevirtual 236, 3) := by decide +kernel
theorem dX6_whose_74 : decode cX6_whose 74 = .ok (.ifCond .eq 17, 3) := by decide +kernel
theorem dX6_whose_77 : decode cX6_whose 77 = .ok (.iload 6, 2) := by decide +kernel
theorem dX6_whose_79 : decode cX6_whose 79 = .ok (.iload 4, 2) := by decide +kernel
theorem dX6_whose_81 : decode cX6_whose 81 = .ok (.if_icmp .ge 10, 3) := by decide +kernel
theorem dX6_whose_84 : decode cX6_whose 84 = .ok (.iload 5, 2) := by decide +kernel
theorem dX6_whose_86 : decode cX6_whose 86 = .ok (.istore_n 3, 1) := by decide +kernel
theorem dX6_whose_87 : decode cX6_whose 87 = .ok (.iload 6, 2) := by decide +kernel
theorem dX6_whose_89 : decode cX6_whose 89 = .ok (.istore 4, 2) := by decide +kernel
theorem dX6_whose_91 : decode cX6_whose 91 = .ok (.iinc 5 1, 3) := by decide +kernel
theorem dX6_whose_94 : decode cX6_whose 94 = .ok (.goto (-66), 3) := by decide +kernel
theorem dX6_whose_97 : decode cX6_whose 97 = .ok (.iload_n 3, 1) := by decide +kernel
theorem dX6_whose_98 : decode cX6_whose 98 = .ok (.ireturn, 1) := by decide +kernel
set_option maxRecDepth 20000 in
theorem ggX6_boundBy_X6_refuse : GoodIn wsX6_boundBy wsX6_refuse := goodIn_r _ [6, 7, 24, 25, 26, 27, 28, 29, 30] (by decide +kernel) (by decide +kernel)
set_option maxRecDepth 20000 in
theorem gX6_boundBy_X6_refuse : GoodIn wsX6_boundBy (wsV RX6 44 RX6 yX6_refuse wsX6_refuse) := goodIn_app (goodIn_of _ (by decide +kernel)) ggX6_boundBy_X6_refuse
set_option maxRecDepth 20000 in
theorem ggX6_boundBy_X3_isOfTrials : GoodIn wsX6_boundBy wsX3_isOfTrials := goodIn_r _ [11, 12, 13, 31, 32] (by decide +kernel) (by decide +kernel)
set_option maxRecDepth 20000 in
theorem gX6_boundBy_X3_isOfTrials_n242 : GoodIn wsX6_boundBy (wsX3_isOfTrials) := ggX6_boundBy_X3_isOfTrials
set_option maxRecDepth 20000 in
theorem ggX6_boundBy_X3_leastBinding : GoodIn wsX6_boundBy wsX3_leastBinding := goodIn_r _ [16, 17, 18, 19, 9, 20, 12, 13, 31, 32] (by decide +kernel) (by decide +kernel)
set_option maxRecDepth 20000 in
theorem gX6_boundBy_X3_leastBinding_n245 : GoodIn wsX6_boundBy (wsX3_leastBinding) := ggX6_boundBy_X3_leastBinding
set_option maxRecDepth 20000 in
theorem ggX6_boundBy_X3_greatestBinding : GoodIn wsX6_boundBy wsX3_greatestBinding := goodIn_r _ [23, 17, 18, 19, 9, 20, 12, 13, 31, 32] (by decide +kernel) (by decide +kernel)
set_option maxRecDepth 20000 in
theorem gX6_boundBy_X3_greatestBinding_n248 : GoodIn wsX6_boundBy (wsX3_greatestBinding) := ggX6_boundBy_X3_greatestBinding
theorem dX6_boundBy_0 : decode cX6_boundBy 0 = .ok (.iload_n 1, 1) := by decide +kernel
theorem dX6_boundBy_1 : decode cX6_boundBy 1 = .ok (.ifCond .ge 10, 3) := by decide +kernel
theorem dX6_boundBy_4 : decode cX6_boundBy 4 = .ok (.aload_n 0, 1) := by decide +kernel
theorem dX6_boundBy_5 : decode cX6_boundBy 5 = .ok (.bipush (-4), 2) := by decide +kernel
theorem dX6_boundBy_7 : decode cX6_boundBy 7 = .ok (.invokevirtual 44, 3) := by decide +kernel
theorem dX6_boundBy_10 : decode cX6_boundBy 10 = .ok (.ireturn, 1) := by decide +kernel
theorem dX6_boundBy_11 : decode cX6_boundBy 11 = .ok (.iload_n 1, 1) := by decide +kernel
theorem dX6_boundBy_12 : decode cX6_boundBy 12 = .ok (.sipush 999, 3) := by decide +kernel
theorem dX6_boundBy_15 : decode cX6_boundBy 15 = .ok (.if_icmp .le 10, 3) := by decide +kernel
theorem dX6_boundBy_18 : decode cX6_boundBy 18 = .ok (.aload_n 0, 1) := by decide +kernel
theorem dX6_boundBy_19 : decode cX6_boundBy 19 = .ok (.bipush (-6), 2) := by decide +kernel
theorem dX6_boundBy_21 : decode cX6_boundBy 21 = .ok (.invokevirtual 44, 3) := by decide +kernel
theorem dX6_boundBy_24 : decode cX6_boundBy 24 = .ok (.ireturn, 1) := by decide +kernel
theorem dX6_boundBy_25 : decode cX6_boundBy 25 = .ok (.iload_n 2, 1) := by decide +kernel
theorem dX6_boundBy_26 : decode cX6_boundBy 26 = .ok (.ifCond .lt 8, 3) := by decide +kernel
theorem dX6_boundBy_29 : decode cX6_boundBy 29 = .ok (.iload_n 2, 1) := by decide +kernel
theorem dX6_boundBy_30 : decode cX6_boundBy 30 = .ok (.iconst 1, 1) := by decide +kernel
theorem dX6_boundBy_31 : decode cX6_boundBy 31 = .ok (.if_icmp .le 10, 3) := by decide +kernel
theorem dX6_boundBy_34 : decode cX6_boundBy 34 = .ok (.aload_n 0, 1) := by decide +kernel
theorem dX6_boundBy_35 : decode cX6_boundBy 35 = .ok (.bipush (-2), 2) := by decide +kernel
theorem dX6_boundBy_37 : decode cX6_boundBy 37 = .ok (.invokevirtual 44, 3) := by decide +kernel
theorem dX6_boundBy_40 : decode cX6_boundBy 40 = .ok (.ireturn, 1) := by decide +kernel
theorem dX6_boundBy_41 : decode cX6_boundBy 41 = .ok (.aload_n 0, 1) := by decide +kernel
theorem dX6_boundBy_42 : decode cX6_boundBy 42 = .ok (.getfield 36, 3) := by decide +kernel
theorem dX6_boundBy_45 : decode cX6_boundBy 45 = .ok (.invokevirtual 242, 3) := by decide +kernel
theorem dX6_boundBy_48 : decode cX6_boundBy 48 = .ok (.ifCond .ne 10, 3) := by decide +kernel
theorem dX6_boundBy_51 : decode cX6_boundBy 51 = .ok (.aload_n 0, 1) := by decide +kernel
theorem dX6_boundBy_52 : decode cX6_boundBy 52 = .ok (.bipush (-3), 2) := by decide +kernel
theorem dX6_boundBy_54 : decode cX6_boundBy 54 = .ok (.invokevirtual 44, 3) := by decide +kernel
theorem dX6_boundBy_57 : decode cX6_boundBy 57 = .ok (.ireturn, 1) := by decide +kernel
theorem dX6_boundBy_58 : decode cX6_boundBy 58 = .ok (.iload_n 2, 1) := by decide +kernel
theorem dX6_boundBy_59 : decode cX6_boundBy 59 = .ok (.ifCond .ne 14, 3) := by decide +kernel
theorem dX6_boundBy_62 : decode cX6_boundBy 62 = .ok (.aload_n 0, 1) := by decide +kernel
theorem dX6_boundBy_63 : decode cX6_boundBy 63 = .ok (.getfield 36, 3) := by decide +kernel
theorem dX6_boundBy_66 : decode cX6_boundBy 66 = .ok (.iload_n 1, 1) := by decide +kernel
theorem dX6_boundBy_67 : decode cX6_boundBy 67 = .ok (.invokevirtual 245, 3) := by decide +kernel
theorem dX6_boundBy_70 : decode cX6_boundBy 70 = .ok (.goto 11, 3) := by decide +kernel
theorem dX6_boundBy_73 : decode cX6_boundBy 73 = .ok (.aload_n 0, 1) := by decide +kernel
theorem dX6_boundBy_74 : decode cX6_boundBy 74 = .ok (.getfield 36, 3) := by decide +kernel
theorem dX6_boundBy_77 : decode cX6_boundBy 77 = .ok (.iload_n 1, 1) := by decide +kernel
theorem dX6_boundBy_78 : decode cX6_boundBy 78 = .ok (.invokevirtual 248, 3) := by decide +kernel
theorem dX6_boundBy_81 : decode cX6_boundBy 81 = .ok (.ireturn, 1) := by decide +kernel
set_option maxRecDepth 20000 in
theorem ggX6_row_X6_refuse : GoodIn wsX6_row wsX6_refuse := goodIn_r _ [6, 7, 14, 15, 16, 17, 18, 19, 20] (by decide +kernel) (by decide +kernel)
set_option maxRecDepth 20000 in
theorem gX6_row_X6_refuse : GoodIn wsX6_row (wsV RX6 44 RX6 yX6_refuse wsX6_refuse) := goodIn_app (goodIn_of _ (by decide +kernel)) ggX6_row_X6_refuse
set_option maxRecDepth 20000 in
theorem ggX6_row_X3_add : GoodIn wsX6_row wsX3_add := goodIn_r _ [11, 12, 13, 21, 22] (by decide +kernel) (by decide +kernel)
set_option maxRecDepth 20000 in
theorem gX6_row_X3_add_n252 : GoodIn wsX6_row (wsX3_add) := ggX6_row_X3_add
theorem dX6_row_0 : decode cX6_row 0 = .ok (.iload_n 1, 1) := by decide +kernel
theorem dX6_row_1 : decode cX6_row 1 = .ok (.ifCond .ge 10, 3) := by decide +kernel
theorem dX6_row_4 : decode cX6_row 4 = .ok (.aload_n 0, 1) := by decide +kernel
theorem dX6_row_5 : decode cX6_row 5 = .ok (.bipush (-4), 2) := by decide +kernel
theorem dX6_row_7 : decode cX6_row 7 = .ok (.invokevirtual 44, 3) := by decide +kernel
theorem dX6_row_10 : decode cX6_row 10 = .ok (.ireturn, 1) := by decide +kernel
theorem dX6_row_11 : decode cX6_row 11 = .ok (.iload_n 1, 1) := by decide +kernel
theorem dX6_row_12 : decode cX6_row 12 = .ok (.bipush 99, 2) := by decide +kernel
theorem dX6_row_14 : decode cX6_row 14 = .ok (.if_icmp .gt 15, 3) := by decide +kernel
theorem dX6_row_17 : decode cX6_row 17 = .ok (.aload_n 0, 1) := by decide +kernel
theorem dX6_row_18 : decode cX6_row 18 = .ok (.getfield 36, 3) := by decide +kernel
theorem dX6_row_21 : decode cX6_row 21 = .ok (.getfield 251, 3) := by decide +kernel
theorem dX6_row_24 : decode cX6_row 24 = .ok (.bipush 12, 2) := by decide +kernel
theorem dX6_row_26 : decode cX6_row 26 = .ok (.if_icmp .lt 10, 3) := by decide +kernel
theorem dX6_row_29 : decode cX6_row 29 = .ok (.aload_n 0, 1) := by decide +kernel
theorem dX6_row_30 : decode cX6_row 30 = .ok (.bipush (-6), 2) := by decide +kernel
theorem dX6_row_32 : decode cX6_row 32 = .ok (.invokevirtual 44, 3) := by decide +kernel
theorem dX6_row_35 : decode cX6_row 35 = .ok (.ireturn, 1) := by decide +kernel
theorem dX6_row_36 : decode cX6_row 36 = .ok (.aload_n 0, 1) := by decide +kernel
theorem dX6_row_37 : decode cX6_row 37 = .ok (.getfield 36, 3) := by decide +kernel
theorem dX6_row_40 : decode cX6_row 40 = .ok (.iload_n 1, 1) := by decide +kernel
theorem dX6_row_41 : decode cX6_row 41 = .ok (.invokevirtual 252, 3) := by decide +kernel
theorem dX6_row_44 : decode cX6_row 44 = .ok (.aload_n 0, 1) := by decide +kernel
theorem dX6_row_45 : decode cX6_row 45 = .ok (.getfield 36, 3) := by decide +kernel
theorem dX6_row_48 : decode cX6_row 48 = .ok (.getfield 251, 3) := by decide +kernel
theorem dX6_row_51 : decode cX6_row 51 = .ok (.ireturn, 1) := by decide +kernel
set_option maxRecDepth 20000 in
theorem ggX6_judge_X4_hasWay : GoodIn wsX6_judge wsX4_hasWay := goodIn_r _ [7, 8, 95, 96, 97, 98, 99, 100, 101, 102, 103, 104] (by decide +kernel) (by decide +kernel)
set_option maxRecDepth 20000 in
theorem gX6_judge_X4_hasWay_n112 : GoodIn wsX6_judge (wsX4_hasWay) := ggX6_judge_X4_hasWay
set_option maxRecDepth 20000 in
theorem ggX6_judge_X6_refuse : GoodIn wsX6_judge wsX6_refuse := goodIn_r _ [13, 14, 86, 87, 88, 89, 90, 91, 92] (by decide +kernel) (by decide +kernel)
set_option maxRecDepth 20000 in
theorem gX6_judge_X6_refuse : GoodIn wsX6_judge (wsV RX6 44 RX6 yX6_refuse wsX6_refuse) := goodIn_app (goodIn_of _ (by decide +kernel)) ggX6_judge_X6_refuse
set_option maxRecDepth 20000 in
theorem ggX6_judge_X4_become : GoodIn wsX6_judge wsX4_become := goodIn_r _ [17, 18, 19, 20, 21, 22, 23, 24, 25, 26, 27, 28, 29, 8, 30, 31, 32, 33, 34, 35, 36, 37, 38, 95, 96, 97, 98, 99, 100, 101, 102, 103, 104, 105, 106, 107, 108] (by decide +kernel) (by decide +kernel)
set_option maxRecDepth 20000 in
theorem gX6_judge_X4_become_n66 : GoodIn wsX6_judge (wsX4_become) := ggX6_judge_X4_become
set_option maxRecDepth 20000 in
theorem ggX6_judge_X6_slipAsTold : GoodIn wsX6_judge wsX6_slipAsTold := goodIn_r _ [42, 2, 43, 5, 44, 45, 8, 46, 47, 48, 49, 28, 50, 51, 52, 53, 54, 55, 56, 57, 18, 58, 59, 60, 61, 62, 63, 64, 24, 65, 66, 67, 68, 69, 70, 71, 72, 27, 25, 73, 74, 75, 76, 77, 78, 79, 80, 26, 29, 86, 87, 88, 89, 90, 91, 92, 95, 96, 97, 98, 99, 100, 101, 102, 103, 104, 105, 106, 107, 108] (by decide +kernel) (by decide +kernel)
set_option maxRecDepth 20000 in
theorem gX6_judge_X6_slipAsTold : GoodIn wsX6_judge (wsV RX6 257 RX6 yX6_slipAsTold wsX6_slipAsTold) := goodIn_app (goodIn_of _ (by decide +kernel)) ggX6_judge_X6_slipAsTold
set_option maxRecDepth 20000 in
theorem ggX6_judge_X3_clear : GoodIn wsX6_judge wsX3_clear := goodIn_r _ [84, 85, 93, 94] (by decide +kernel) (by decide +kernel)
set_option maxRecDepth 20000 in
theorem gX6_judge_X3_clear_n260 : GoodIn wsX6_judge (wsX3_clear) := ggX6_judge_X3_clear
theorem dX6_judge_0 : decode cX6_judge 0 = .ok (.aload_n 0, 1) := by decide +kernel
theorem dX6_judge_1 : decode cX6_judge 1 = .ok (.getfield 10, 3) := by decide +kernel
theorem dX6_judge_4 : decode cX6_judge 4 = .ok (.iload_n 1, 1) := by decide +kernel
theorem dX6_judge_5 : decode cX6_judge 5 = .ok (.invokevirtual 112, 3) := by decide +kernel
theorem dX6_judge_8 : decode cX6_judge 8 = .ok (.ifCond .ne 9, 3) := by decide +kernel
theorem dX6_judge_11 : decode cX6_judge 11 = .ok (.aload_n 0, 1) := by decide +kernel
theorem dX6_judge_12 : decode cX6_judge 12 = .ok (.iconst (-1), 1) := by decide +kernel
theorem dX6_judge_13 : decode cX6_judge 13 = .ok (.invokevirtual 44, 3) := by decide +kernel
theorem dX6_judge_16 : decode cX6_judge 16 = .ok (.ireturn, 1) := by decide +kernel
theorem dX6_judge_17 : decode cX6_judge 17 = .ok (.aload_n 0, 1) := by decide +kernel
theorem dX6_judge_18 : decode cX6_judge 18 = .ok (.getfield 16, 3) := by decide +kernel
theorem dX6_judge_21 : decode cX6_judge 21 = .ok (.aload_n 0, 1) := by decide +kernel
theorem dX6_judge_22 : decode cX6_judge 22 = .ok (.getfield 10, 3) := by decide +kernel
theorem dX6_judge_25 : decode cX6_judge 25 = .ok (.invokevirtual 66, 3) := by decide +kernel
theorem dX6_judge_28 : decode cX6_judge 28 = .ok (.bipush (-9), 2) := by decide +kernel
theorem dX6_judge_30 : decode cX6_judge 30 = .ok (.istore_n 2, 1) := by decide +kernel
theorem dX6_judge_31 : decode cX6_judge 31 = .ok (.iconst 0, 1) := by decide +kernel
theorem dX6_judge_32 : decode cX6_judge 32 = .ok (.istore_n 3, 1) := by decide +kernel
theorem dX6_judge_33 : decode cX6_judge 33 = .ok (.iload_n 3, 1) := by decide +kernel
theorem dX6_judge_34 : decode cX6_judge 34 = .ok (.aload_n 0, 1) := by decide +kernel
theorem dX6_judge_35 : decode cX6_judge 35 = .ok (.getfield 36, 3) := by decide +kernel
theorem dX6_judge_38 : decode cX6_judge 38 = .ok (.getfield 251, 3) := by decide +kernel
theorem dX6_judge_41 : decode cX6_judge 41 = .ok (.if_icmp .ge 44, 3) := by decide +kernel
theorem dX6_judge_44 : decode cX6_judge 44 = .ok (.iload_n 2, 1) := by decide +kernel
theorem dX6_judge_45 : decode cX6_judge 45 = .ok (.bipush (-9), 2) := by decide +kernel
theorem dX6_judge_47 : decode cX6_judge 47 = .ok (.if_icmp .ne 38, 3) := by decide +kernel
theorem dX6_judge_50 : decode cX6_judge 50 = .ok (.aload_n 0, 1) := by decide +kernel
theorem dX6_judge_51 : decode cX6_judge 51 = .ok (.getfield 16, 3) := by decide +kernel
theorem dX6_judge_54 : decode cX6_judge 54 = .ok (.getfield 173, 3) := by decide +kernel
theorem dX6_judge_57 : decode cX6_judge 57 = .ok (.iconst 0, 1) := by decide +kernel
theorem dX6_judge_58 : decode cX6_judge 58 = .ok (.iload_n 3, 1) := by decide +kernel
theorem dX6_judge_59 : decode cX6_judge 59 = .ok (.iastore, 1) := by decide +kernel
theorem dX6_judge_60 : decode cX6_judge 60 = .ok (.aload_n 0, 1) := by decide +kernel
theorem dX6_judge_61 : decode cX6_judge 61 = .ok (.getfield 36, 3) := by decide +kernel
theorem dX6_judge_64 : decode cX6_judge 64 = .ok (.getfield 254, 3) := by decide +kernel
theorem dX6_judge_67 : decode cX6_judge 67 = .ok (.iload_n 3, 1) := by decide +kernel
theorem dX6_judge_68 : decode cX6_judge 68 = .ok (.iaload, 1) := by decide +kernel
theorem dX6_judge_69 : decode cX6_judge 69 = .ok (.aload_n 0, 1) := by decide +kernel
theorem dX6_judge_70 : decode cX6_judge 70 = .ok (.iload_n 1, 1) := by decide +kernel
theorem dX6_judge_71 : decode cX6_judge 71 = .ok (.invokevirtual 257, 3) := by decide +kernel
theorem dX6_judge_74 : decode cX6_judge 74 = .ok (.if_icmp .eq 5, 3) := by decide +kernel
theorem dX6_judge_77 : decode cX6_judge 77 = .ok (.iload_n 3, 1) := by decide +kernel
theorem dX6_judge_78 : decode cX6_judge 78 = .ok (.istore_n 2, 1) := by decide +kernel
theorem dX6_judge_79 : decode cX6_judge 79 = .ok (.iinc 3 1, 3) := by decide +kernel
theorem dX6_judge_82 : decode cX6_judge 82 = .ok (.goto (-49), 3) := by decide +kernel
theorem dX6_judge_85 : decode cX6_judge 85 = .ok (.aload_n 0, 1) := by decide +kernel
theorem dX6_judge_86 : decode cX6_judge 86 = .ok (.getfield 36, 3) := by decide +kernel
theorem dX6_judge_89 : decode cX6_judge 89 = .ok (.invokevirtual 260, 3) := by decide +kernel
theorem dX6_judge_92 : decode cX6_judge 92 = .ok (.iload_n 2, 1) := by decide +kernel
theorem dX6_judge_93 : decode cX6_judge 93 = .ok (.ireturn, 1) := by decide +kernel
set_option maxRecDepth 20000 in
theorem ggX6_slipAsTold_X4_pieceOfSlip : GoodIn wsX6_slipAsTold wsX4_pieceOfSlip := goodIn_r _ [5, 6, 7, 8, 9, 3, 10, 11, 12, 13, 14, 15, 16, 17, 18, 19, 20, 21, 22, 23, 24, 25, 26, 27, 28, 29, 30, 31, 32, 33, 34, 35, 36, 37, 38, 39, 40, 41, 42, 43, 44, 45, 46, 47, 48, 56, 57, 58, 59, 60, 61, 62, 63, 64, 65, 66, 67, 68, 69] (by decide +kernel) (by decide +kernel)
set_option maxRecDepth 20000 in
theorem gX6_slipAsTold_X4_pieceOfSlip_n180 : GoodIn wsX6_slipAsTold (wsX4_pieceOfSlip) := ggX6_slipAsTold_X4_pieceOfSlip
set_option maxRecDepth 20000 in
theorem ggX6_slipAsTold_X4_layerOfSlip : GoodIn wsX6_slipAsTold wsX4_layerOfSlip := goodIn_r _ [10, 11, 12, 13, 14, 3, 15, 6, 16, 17, 18, 19, 20, 21, 22, 23, 24, 25, 26, 27, 28, 29, 30, 31, 32, 33, 34, 35, 36, 37, 38, 39, 40, 41, 42, 43, 44, 45, 46, 47, 48, 56, 57, 58, 59, 60, 61, 62, 63, 64, 65, 66, 67, 68, 69] (by decide +kernel) (by decide +kernel)
set_option maxRecDepth 20000 in
theorem gX6_slipAsTold_X4_layerOfSlip_n183 : GoodIn wsX6_slipAsTold (wsX4_layerOfSlip) := ggX6_slipAsTold_X4_layerOfSlip
theorem dX6_slipAsTold_0 : decode cX6_slipAsTold 0 = .ok (.aload_n 0, 1) := by decide +kernel
theorem dX6_slipAsTold_1 : decode cX6_slipAsTold 1 = .ok (.getfield 16, 3) := by decide +kernel
theorem dX6_slipAsTold_4 : decode cX6_slipAsTold 4 = .ok (.iload_n 1, 1) := by decide +kernel
theorem dX6_slipAsTold_5 : decode cX6_slipAsTold 5 = .ok (.invokevirtual 180, 3) := by decide +kernel
theorem dX6_slipAsTold_8 : decode cX6_slipAsTold 8 = .ok (.istore_n 2, 1) := by decide +kernel
theorem dX6_slipAsTold_9 : decode cX6_slipAsTold 9 = .ok (.iload_n 2, 1) := by decide +kernel
theorem dX6_slipAsTold_10 : decode cX6_slipAsTold 10 = .ok (.ifCond .ge 8, 3) := by decide +kernel
theorem dX6_slipAsTold_13 : decode cX6_slipAsTold 13 = .ok (.bipush 99, 2) := by decide +kernel
theorem dX6_slipAsTold_15 : decode cX6_slipAsTold 15 = .ok (.goto 12, 3) := by decide +kernel
theorem dX6_slipAsTold_18 : decode cX6_slipAsTold 18 = .ok (.aload_n 0, 1) := by decide +kernel
theorem dX6_slipAsTold_19 : decode cX6_slipAsTold 19 = .ok (.getfield 16, 3) := by decide +kernel
theorem dX6_slipAsTold_22 : decode cX6_slipAsTold 22 = .ok (.iload_n 1, 1) := by decide +kernel
theorem dX6_slipAsTold_23 : decode cX6_slipAsTold 23 = .ok (.iload_n 2, 1) := by decide +kernel
theorem dX6_slipAsTold_24 : decode cX6_slipAsTold 24 = .ok (.invokevirtual 183, 3) := by decide +kernel
theorem dX6_slipAsTold_27 : decode cX6_slipAsTold 27 = .ok (.ireturn, 1) := by decide +kernel
set_option maxRecDepth 20000 in
theorem ggX6_lots_X4_hasWay : GoodIn wsX6_lots wsX4_hasWay := goodIn_r _ [6, 7, 99, 100, 101, 102, 103, 104, 105, 106, 107, 108] (by decide +kernel) (by decide +kernel)
set_option maxRecDepth 20000 in
theorem gX6_lots_X4_hasWay_n112 : GoodIn wsX6_lots (wsX4_hasWay) := ggX6_lots_X4_hasWay
set_option maxRecDepth 20000 in
theorem ggX6_lots_X6_refuse : GoodIn wsX6_lots wsX6_refuse := goodIn_r _ [12, 13, 92, 93, 94, 95, 96, 97, 98] (by decide +kernel) (by decide +kernel)
set_option maxRecDepth 20000 in
theorem gX6_lots_X6_refuse : GoodIn wsX6_lots (wsV RX6 44 RX6 yX6_refuse wsX6_refuse) := goodIn_app (goodIn_of _ (by decide +kernel)) ggX6_lots_X6_refuse
set_option maxRecDepth 20000 in
theorem ggX6_lots_X4_become : GoodIn wsX6_lots wsX4_become := goodIn_r _ [16, 17, 18, 19, 20, 21, 22, 23, 24, 25, 26, 27, 28, 7, 29, 30, 31, 32, 33, 34, 35, 36, 37, 99, 100, 101, 102, 103, 104, 105, 106, 107, 108, 109, 110, 111, 112] (by decide +kernel) (by decide +kernel)
set_option maxRecDepth 20000 in
theorem gX6_lots_X4_become_n66 : GoodIn wsX6_lots (wsX4_become) := ggX6_lots_X4_become
set_option maxRecDepth 20000 in
theorem ggX6_lots_X4_layByLot : GoodIn wsX6_lots wsX4_layByLot := goodIn_r _ [40, 27, 23, 24, 41, 42, 4, 43, 44, 45, 46, 47, 48, 49, 99, 100, 101, 102, 103, 104, 105, 106, 107, 108] (by decide +kernel) (by decide +kernel)
set_option maxRecDepth 20000 in
theorem gX6_lots_X4_layByLot_n261 : GoodIn wsX6_lots (wsX4_layByLot) := ggX6_lots_X4_layByLot
set_option maxRecDepth 20000 in
theorem ggX6_lots_X4_holds : GoodIn wsX6_lots wsX4_holds := goodIn_r _ [52, 53, 54, 55, 4, 56, 7, 57, 58, 59, 60, 27, 61, 62, 63, 64, 65, 66, 67, 68, 17, 69, 70, 71, 72, 73, 74, 75, 23, 76, 77, 78, 79, 80, 81, 82, 83, 26, 24, 84, 85, 86, 87, 88, 89, 90, 91, 25, 28, 99, 100, 101, 102, 103, 104, 105, 106, 107, 108, 109, 110, 111, 112] (by decide +kernel) (by decide +kernel)
set_option maxRecDepth 20000 in
theorem gX6_lots_X4_holds_n189 : GoodIn wsX6_lots (wsX4_holds) := ggX6_lots_X4_holds
theorem dX6_lots_0 : decode cX6_lots 0 = .ok (.aload_n 0, 1) := by decide +kernel
theorem dX6_lots_1 : decode cX6_lots 1 = .ok (.getfield 10, 3) := by decide +kernel
theorem dX6_lots_4 : decode cX6_lots 4 = .ok (.iload_n 1, 1) := by decide +kernel
theorem dX6_lots_5 : decode cX6_lots 5 = .ok (.invokevirtual 112, 3) := by decide +kernel
theorem dX6_lots_8 : decode cX6_lots 8 = .ok (.ifCond .ne 9, 3) := by decide +kernel
theorem dX6_lots_11 : decode cX6_lots 11 = .ok (.aload_n 0, 1) := by decide +kernel
theorem dX6_lots_12 : decode cX6_lots 12 = .ok (.iconst (-1), 1) := by decide +kernel
theorem dX6_lots_13 : decode cX6_lots 13 = .ok (.invokevirtual 44, 3) := by decide +kernel
theorem dX6_lots_16 : decode cX6_lots 16 = .ok (.ireturn, 1) := by decide +kernel
theorem dX6_lots_17 : decode cX6_lots 17 = .ok (.iload_n 2, 1) := by decide +kernel
theorem dX6_lots_18 : decode cX6_lots 18 = .ok (.iconst 1, 1) := by decide +kernel
theorem dX6_lots_19 : decode cX6_lots 19 = .ok (.if_icmp .ge 10, 3) := by decide +kernel
theorem dX6_lots_22 : decode cX6_lots 22 = .ok (.aload_n 0, 1) := by decide +kernel
theorem dX6_lots_23 : decode cX6_lots 23 = .ok (.bipush (-4), 2) := by decide +kernel
theorem dX6_lots_25 : decode cX6_lots 25 = .ok (.invokevirtual 44, 3) := by decide +kernel
theorem dX6_lots_28 : decode cX6_lots 28 = .ok (.ireturn, 1) := by decide +kernel
theorem dX6_lots_29 : decode cX6_lots 29 = .ok (.iload_n 2, 1) := by decide +kernel
theorem dX6_lots_30 : decode cX6_lots 30 = .ok (.bipush 30, 2) := by decide +kernel
theorem dX6_lots_32 : decode cX6_lots 32 = .ok (.if_icmp .le 10, 3) := by decide +kernel
theorem dX6_lots_35 : decode cX6_lots 35 = .ok (.aload_n 0, 1) := by decide +kernel
theorem dX6_lots_36 : decode cX6_lots 36 = .ok (.bipush (-6), 2) := by decide +kernel
theorem dX6_lots_38 : decode cX6_lots 38 = .ok (.invokevirtual 44, 3) := by decide +kernel
theorem dX6_lots_41 : decode cX6_lots 41 = .ok (.ireturn, 1) := by decide +kernel
theorem dX6_lots_42 : decode cX6_lots 42 = .ok (.aload_n 0, 1) := by decide +kernel
theorem dX6_lots_43 : decode cX6_lots 43 = .ok (.getfield 16, 3) := by decide +kernel
theorem dX6_lots_46 : decode cX6_lots 46 = .ok (.aload_n 0, 1) := by decide +kernel
theorem dX6_lots_47 : decode cX6_lots 47 = .ok (.getfield 10, 3) := by decide +kernel
theorem dX6_lots_50 : decode cX6_lots 50 = .ok (.invokevirtual 66, 3) := by decide +kernel
theorem dX6_lots_53 : decode cX6_lots 53 = .ok (.iload_n 3, 1) := by decide +kernel
theorem dX6_lots_54 : decode cX6_lots 54 = .ok (.istore 4, 2) := by decide +kernel
theorem dX6_lots_56 : decode cX6_lots 56 = .ok (.iconst 0, 1) := by decide +kernel
theorem dX6_lots_57 : decode cX6_lots 57 = .ok (.istore 5, 2) := by decide +kernel
theorem dX6_lots_59 : decode cX6_lots 59 = .ok (.iconst 0, 1) := by decide +kernel
theorem dX6_lots_60 : decode cX6_lots 60 = .ok (.istore 6, 2) := by decide +kernel
theorem dX6_lots_62 : decode cX6_lots 62 = .ok (.iload 6, 2) := by decide +kernel
theorem dX6_lots_64 : decode cX6_lots 64 = .ok (.iload_n 2, 1) := by decide +kernel
theorem dX6_lots_65 : decode cX6_lots 65 = .ok (.if_icmp .ge 34, 3) := by decide +kernel
theorem dX6_lots_68 : decode cX6_lots 68 = .ok (.aload_n 0, 1) := by decide +kernel
theorem dX6_lots_69 : decode cX6_lots 69 = .ok (.getfield 16, 3) := by decide +kernel
theorem dX6_lots_72 : decode cX6_lots 72 = .ok (.iload 4, 2) := by decide +kernel
theorem dX6_lots_74 : decode cX6_lots 74 = .ok (.invokevirtual 261, 3) := by decide +kernel
theorem dX6_lots_77 : decode cX6_lots 77 = .ok (.istore 4, 2) := by decide +kernel
theorem dX6_lots_79 : decode cX6_lots 79 = .ok (.aload_n 0, 1) := by decide +kernel
theorem dX6_lots_80 : decode cX6_lots 80 = .ok (.getfield 16, 3) := by decide +kernel
theorem dX6_lots_83 : decode cX6_lots 83 = .ok (.iload_n 1, 1) := by decide +kernel
theorem dX6_lots_84 : decode cX6_lots 84 = .ok (.invokevirtual 189, 3) := by decide +kernel
theorem dX6_lots_87 : decode cX6_lots 87 = .ok (.ifCond .eq 6, 3) := by decide +kernel
theorem dX6_lots_90 : decode cX6_lots 90 = .ok (.iinc 5 1, 3) := by decide +kernel
theorem dX6_lots_93 : decode cX6_lots 93 = .ok (.iinc 6 1, 3) := by decide +kernel
theorem dX6_lots_96 : decode cX6_lots 96 = .ok (.goto (-34), 3) := by decide +kernel
theorem dX6_lots_99 : decode cX6_lots 99 = .ok (.iload 5, 2) := by decide +kernel
theorem dX6_lots_101 : decode cX6_lots 101 = .ok (.ireturn, 1) := by decide +kernel
set_option maxRecDepth 20000 in
theorem ggX6_image_X4_become : GoodIn wsX6_image wsX4_become := goodIn_r _ [7, 8, 9, 10, 11, 12, 13, 14, 15, 16, 17, 18, 19, 20, 21, 22, 23, 24, 25, 26, 27, 28, 29, 37, 38, 39, 40, 41, 42, 43, 44, 45, 46, 47, 48, 49, 50] (by decide +kernel) (by decide +kernel)
set_option maxRecDepth 20000 in
theorem gX6_image_X4_become_n66 : GoodIn wsX6_image (wsX4_become) := ggX6_image_X4_become
theorem dX6_image_0 : decode cX6_image 0 = .ok (.aload_n 0, 1) := by decide +kernel
theorem dX6_image_1 : decode cX6_image 1 = .ok (.getfield 19, 3) := by decide +kernel
theorem dX6_image_4 : decode cX6_image 4 = .ok (.aload_n 0, 1) := by decide +kernel
theorem dX6_image_5 : decode cX6_image 5 = .ok (.getfield 10, 3) := by decide +kernel
theorem dX6_image_8 : decode cX6_image 8 = .ok (.invokevirtual 66, 3) := by decide +kernel
theorem dX6_image_11 : decode cX6_image 11 = .ok (.aload_n 0, 1) := by decide +kernel
theorem dX6_image_12 : decode cX6_image 12 = .ok (.iconst 1, 1) := by decide +kernel
theorem dX6_image_13 : decode cX6_image 13 = .ok (.putfield 22, 3) := by decide +kernel
theorem dX6_image_16 : decode cX6_image 16 = .ok (.aload_n 0, 1) := by decide +kernel
theorem dX6_image_17 : decode cX6_image 17 = .ok (.getfield 10, 3) := by decide +kernel
theorem dX6_image_20 : decode cX6_image 20 = .ok (.getfield 99, 3) := by decide +kernel
theorem dX6_image_23 : decode cX6_image 23 = .ok (.ireturn, 1) := by decide +kernel
set_option maxRecDepth 20000 in
theorem ggX6_on_X6_refuse : GoodIn wsX6_on wsX6_refuse := goodIn_r _ [8, 9, 36, 37, 38, 39, 40, 41, 42] (by decide +kernel) (by decide +kernel)
set_option maxRecDepth 20000 in
theorem gX6_on_X6_refuse : GoodIn wsX6_on (wsV RX6 44 RX6 yX6_refuse wsX6_refuse) := goodIn_app (goodIn_of _ (by decide +kernel)) ggX6_on_X6_refuse
set_option maxRecDepth 20000 in
theorem ggX6_on_X4_become : GoodIn wsX6_on wsX4_become := goodIn_r _ [13, 14, 15, 16, 17, 18, 19, 20, 21, 22, 23, 24, 25, 26, 27, 28, 29, 30, 31, 32, 33, 34, 35, 43, 44, 45, 46, 47, 48, 49, 50, 51, 52, 53, 54, 55, 56] (by decide +kernel) (by decide +kernel)
set_option maxRecDepth 20000 in
theorem gX6_on_X4_become_n66 : GoodIn wsX6_on (wsX4_become) := ggX6_on_X4_become
theorem dX6_on_0 : decode cX6_on 0 = .ok (.aload_n 0, 1) := by decide +kernel
theorem dX6_on_1 : decode cX6_on 1 = .ok (.getfield 22, 3) := by decide +kernel
theorem dX6_on_4 : decode cX6_on 4 = .ok (.ifCond .ne 10, 3) := by decide +kernel
theorem dX6_on_7 : decode cX6_on 7 = .ok (.aload_n 0, 1) := by decide +kernel
theorem dX6_on_8 : decode cX6_on 8 = .ok (.bipush (-3), 2) := by decide +kernel
theorem dX6_on_10 : decode cX6_on 10 = .ok (.invokevirtual 44, 3) := by decide +kernel
theorem dX6_on_13 : decode cX6_on 13 = .ok (.ireturn, 1) := by decide +kernel
theorem dX6_on_14 : decode cX6_on 14 = .ok (.aload_n 0, 1) := by decide +kernel
theorem dX6_on_15 : decode cX6_on 15 = .ok (.getfield 10, 3) := by decide +kernel
theorem dX6_on_18 : decode cX6_on 18 = .ok (.aload_n 0, 1) := by decide +kernel
theorem dX6_on_19 : decode cX6_on 19 = .ok (.getfield 19, 3) := by decide +kernel
theorem dX6_on_22 : decode cX6_on 22 = .ok (.invokevirtual 66, 3) := by decide +kernel
theorem dX6_on_25 : decode cX6_on 25 = .ok (.aload_n 0, 1) := by decide +kernel
theorem dX6_on_26 : decode cX6_on 26 = .ok (.getfield 10, 3) := by decide +kernel
theorem dX6_on_29 : decode cX6_on 29 = .ok (.getfield 99, 3) := by decide +kernel
theorem dX6_on_32 : decode cX6_on 32 = .ok (.ireturn, 1) := by decide +kernel
set_option maxRecDepth 20000 in
theorem ggX6_count_X4_height : GoodIn wsX6_count wsX4_height := goodIn_r _ [8, 9, 10, 11, 12, 13, 37, 38, 39, 40, 41, 42, 43, 44, 45, 46] (by decide +kernel) (by decide +kernel)
set_option maxRecDepth 20000 in
theorem gX6_count_X4_height_n267 : GoodIn wsX6_count (wsX4_height) := ggX6_count_X4_height
set_option maxRecDepth 20000 in
theorem ggX6_count_X4_width : GoodIn wsX6_count wsX4_width := goodIn_r _ [16, 17, 18, 19, 20, 6, 21, 9, 37, 38, 39, 40, 41, 42, 43, 44, 45, 46] (by decide +kernel) (by decide +kernel)
set_option maxRecDepth 20000 in
theorem gX6_count_X4_width_n270 : GoodIn wsX6_count (wsX4_width) := ggX6_count_X4_width
set_option maxRecDepth 20000 in
theorem ggX6_count_X4_allWeight : GoodIn wsX6_count wsX4_allWeight := goodIn_r _ [24, 9, 25, 37, 38, 39, 40, 41, 42, 43, 44, 45, 46] (by decide +kernel) (by decide +kernel)
set_option maxRecDepth 20000 in
theorem gX6_count_X4_allWeight_n273 : GoodIn wsX6_count (wsX4_allWeight) := ggX6_count_X4_allWeight
set_option maxRecDepth 20000 in
theorem ggX6_count_X4_allSheaves : GoodIn wsX6_count wsX4_allSheaves := goodIn_r _ [28, 9, 29, 37, 38, 39, 40, 41, 42, 43, 44, 45, 46] (by decide +kernel) (by decide +kernel)
set_option maxRecDepth 20000 in
theorem gX6_count_X4_allSheaves_n276 : GoodIn wsX6_count (wsX4_allSheaves) := ggX6_count_X4_allSheaves
theorem dX6_count_0 : decode cX6_count 0 = .ok (.iload_n 1, 1) := by decide +kernel
theorem dX6_count_1 : decode cX6_count 1 = .ok (.tableswitch 147 0 9 #[55, 63, 76, 89, 97, 105, 113, 121, 131, 139], 55) := by decide +kernel
theorem dX6_count_56 : decode cX6_count 56 = .ok (.aload_n 0, 1) := by decide +kernel
theorem dX6_count_57 : decode cX6_count 57 = .ok (.getfield 10, 3) := by decide +kernel
theorem dX6_count_60 : decode cX6_count 60 = .ok (.getfield 99, 3) := by decide +kernel
theorem dX6_count_63 : decode cX6_count 63 = .ok (.ireturn, 1) := by decide +kernel
theorem dX6_count_64 : decode cX6_count 64 = .ok (.aload_n 0, 1) := by decide +kernel
theorem dX6_count_65 : decode cX6_count 65 = .ok (.getfield 10, 3) := by decide +kernel
theorem dX6_count_68 : decode cX6_count 68 = .ok (.getfield 115, 3) := by decide +kernel
theorem dX6_count_71 : decode cX6_count 71 = .ok (.iconst 0, 1) := by decide +kernel
theorem dX6_count_72 : decode cX6_count 72 = .ok (.aaload, 1) := by decide +kernel
theorem dX6_count_73 : decode cX6_count 73 = .ok (.getfield 264, 3) := by decide +kernel
theorem dX6_count_76 : decode cX6_count 76 = .ok (.ireturn, 1) := by decide +kernel
theorem dX6_count_77 : decode cX6_count 77 = .ok (.aload_n 0, 1) := by decide +kernel
theorem dX6_count_78 : decode cX6_count 78 = .ok (.getfield 10, 3) := by decide +kernel
theorem dX6_count_81 : decode cX6_count 81 = .ok (.getfield 115, 3) := by decide +kernel
theorem dX6_count_84 : decode cX6_count 84 = .ok (.iconst 1, 1) := by decide +kernel
theorem dX6_count_85 : decode cX6_count 85 = .ok (.aaload, 1) := by decide +kernel
theorem dX6_count_86 : decode cX6_count 86 = .ok (.getfield 264, 3) := by decide +kernel
theorem dX6_count_89 : decode cX6_count 89 = .ok (.ireturn, 1) := by decide +kernel
theorem dX6_count_90 : decode cX6_count 90 = .ok (.aload_n 0, 1) := by decide +kernel
theorem dX6_count_91 : decode cX6_count 91 = .ok (.getfield 10, 3) := by decide +kernel
theorem dX6_count_94 : decode cX6_count 94 = .ok (.invokevirtual 267, 3) := by decide +kernel
theorem dX6_count_97 : decode cX6_count 97 = .ok (.ireturn, 1) := by decide +kernel
theorem dX6_count_98 : decode cX6_count 98 = .ok (.aload_n 0, 1) := by decide +kernel
theorem dX6_count_99 : decode cX6_count 99 = .ok (.getfield 10, 3) := by decide +kernel
theorem dX6_count_102 : decode cX6_count 102 = .ok (.invokevirtual 270, 3) := by decide +kernel
theorem dX6_count_105 : decode cX6_count 105 = .ok (.ireturn, 1) := by decide +kernel
theorem dX6_count_106 : decode cX6_count 106 = .ok (.aload_n 0, 1) := by decide +kernel
theorem dX6_count_107 : decode cX6_count 107 = .ok (.getfield 10, 3) := by decide +kernel
theorem dX6_count_110 : decode cX6_count 110 = .ok (.invokevirtual 273, 3) := by decide +kernel
theorem dX6_count_113 : decode cX6_count 113 = .ok (.ireturn, 1) := by decide +kernel
theorem dX6_count_114 : decode cX6_count 114 = .ok (.aload_n 0, 1) := by decide +kernel
theorem dX6_count_115 : decode cX6_count 115 = .ok (.getfield 10, 3) := by decide +kernel
theorem dX6_count_118 : decode cX6_count 118 = .ok (.invokevirtual 276, 3) := by decide +kernel
theorem dX6_count_121 : decode cX6_count 121 = .ok (.ireturn, 1) := by decide +kernel
theorem dX6_count_122 : decode cX6_count 122 = .ok (.aload_n 0, 1) := by decide +kernel
theorem dX6_count_123 : decode cX6_count 123 = .ok (.getfield 10, 3) := by decide +kernel
theorem dX6_count_126 : decode cX6_count 126 = .ok (.getfield 173, 3) := by decide +kernel
theorem dX6_count_129 : decode cX6_count 129 = .ok (.iconst 0, 1) := by decide +kernel
theorem dX6_count_130 : decode cX6_count 130 = .ok (.iaload, 1) := by decide +kernel
theorem dX6_count_131 : decode cX6_count 131 = .ok (.ireturn, 1) := by decide +kernel
theorem dX6_count_132 : decode cX6_count 132 = .ok (.aload_n 0, 1) := by decide +kernel
theorem dX6_count_133 : decode cX6_count 133 = .ok (.getfield 36, 3) := by decide +kernel
theorem dX6_count_136 : decode cX6_count 136 = .ok (.getfield 251, 3) := by decide +kernel
theorem dX6_count_139 : decode cX6_count 139 = .ok (.ireturn, 1) := by decide +kernel
theorem dX6_count_140 : decode cX6_count 140 = .ok (.aload_n 0, 1) := by decide +kernel
theorem dX6_count_141 : decode cX6_count 141 = .ok (.getfield 29, 3) := by decide +kernel
theorem dX6_count_144 : decode cX6_count 144 = .ok (.getfield 48, 3) := by decide +kernel
theorem dX6_count_147 : decode cX6_count 147 = .ok (.ireturn, 1) := by decide +kernel
theorem dX6_count_148 : decode cX6_count 148 = .ok (.iload_n 1, 1) := by decide +kernel
theorem dX6_count_149 : decode cX6_count 149 = .ok (.bipush 11, 2) := by decide +kernel
theorem dX6_count_151 : decode cX6_count 151 = .ok (.if_icmp .lt 21, 3) := by decide +kernel
theorem dX6_count_154 : decode cX6_count 154 = .ok (.iload_n 1, 1) := by decide +kernel
theorem dX6_count_155 : decode cX6_count 155 = .ok (.bipush 16, 2) := by decide +kernel
theorem dX6_count_157 : decode cX6_count 157 = .ok (.if_icmp .gt 15, 3) := by decide +kernel
theorem dX6_count_160 : decode cX6_count 160 = .ok (.aload_n 0, 1) := by decide +kernel
theorem dX6_count_161 : decode cX6_count 161 = .ok (.getfield 40, 3) := by decide +kernel
theorem dX6_count_164 : decode cX6_count 164 = .ok (.iload_n 1, 1) := by decide +kernel
theorem dX6_count_165 : decode cX6_count 165 = .ok (.bipush 10, 2) := by decide +kernel
theorem dX6_count_167 : decode cX6_count 167 = .ok (.isub, 1) := by decide +kernel
theorem dX6_count_168 : decode cX6_count 168 = .ok (.iaload, 1) := by decide +kernel
theorem dX6_count_169 : decode cX6_count 169 = .ok (.goto 5, 3) := by decide +kernel
theorem dX6_count_172 : decode cX6_count 172 = .ok (.bipush (-9), 2) := by decide +kernel
theorem dX6_count_174 : decode cX6_count 174 = .ok (.ireturn, 1) := by decide +kernel
theorem dX6_refuse_0 : decode cX6_refuse 0 = .ok (.iload_n 1, 1) := by decide +kernel
theorem dX6_refuse_1 : decode cX6_refuse 1 = .ok (.ineg, 1) := by decide +kernel
theorem dX6_refuse_2 : decode cX6_refuse 2 = .ok (.istore_n 2, 1) := by decide +kernel
theorem dX6_refuse_3 : decode cX6_refuse 3 = .ok (.iload_n 2, 1) := by decide +kernel
theorem dX6_refuse_4 : decode cX6_refuse 4 = .ok (.ifCond .le 22, 3) := by decide +kernel
theorem dX6_refuse_7 : decode cX6_refuse 7 = .ok (.iload_n 2, 1) := by decide +kernel
theorem dX6_refuse_8 : decode cX6_refuse 8 = .ok (.aload_n 0, 1) := by decide +kernel
theorem dX6_refuse_9 : decode cX6_refuse 9 = .ok (.getfield 40, 3) := by decide +kernel
theorem dX6_refuse_12 : decode cX6_refuse 12 = .ok (.arraylength, 1) := by decide +kernel
theorem dX6_refuse_13 : decode cX6_refuse 13 = .ok (.if_icmp .ge 13, 3) := by decide +kernel
theorem dX6_refuse_16 : decode cX6_refuse 16 = .ok (.aload_n 0, 1) := by decide +kernel
theorem dX6_refuse_17 : decode cX6_refuse 17 = .ok (.getfield 40, 3) := by decide +kernel
theorem dX6_refuse_20 : decode cX6_refuse 20 = .ok (.iload_n 2, 1) := by decide +kernel
theorem dX6_refuse_21 : decode cX6_refuse 21 = .ok (.dup2, 1) := by decide +kernel
theorem dX6_refuse_22 : decode cX6_refuse 22 = .ok (.iaload, 1) := by decide +kernel
theorem dX6_refuse_23 : decode cX6_refuse 23 = .ok (.iconst 1, 1) := by decide +kernel
theorem dX6_refuse_24 : decode cX6_refuse 24 = .ok (.iadd, 1) := by decide +kernel
theorem dX6_refuse_25 : decode cX6_refuse 25 = .ok (.iastore, 1) := by decide +kernel
theorem dX6_refuse_26 : decode cX6_refuse 26 = .ok (.iload_n 1, 1) := by decide +kernel
theorem dX6_refuse_27 : decode cX6_refuse 27 = .ok (.ireturn, 1) := by decide +kernel
set_option maxRecDepth 20000 in
theorem ggX6_refuseWide_X6_refuse : GoodIn wsX6_refuseWide wsX6_refuse := goodIn_r _ [6, 7, 8, 9, 10, 11, 12, 13, 14] (by decide +kernel) (by decide +kernel)
set_option maxRecDepth 20000 in
theorem gX6_refuseWide_X6_refuse : GoodIn wsX6_refuseWide (wsV RX6 44 RX6 yX6_refuse wsX6_refuse) := goodIn_app (goodIn_of _ (by decide +kernel)) ggX6_refuseWide_X6_refuse
theorem dX6_refuseWide_0 : decode cX6_refuseWide 0 = .ok (.ldc_w 279, 3) := by decide +kernel
theorem dX6_refuseWide_3 : decode cX6_refuseWide 3 = .ok (.aload_n 0, 1) := by decide +kernel
theorem dX6_refuseWide_4 : decode cX6_refuseWide 4 = .ok (.iload_n 1, 1) := by decide +kernel
theorem dX6_refuseWide_5 : decode cX6_refuseWide 5 = .ok (.invokevirtual 44, 3) := by decide +kernel
theorem dX6_refuseWide_8 : decode cX6_refuseWide 8 = .ok (.isub, 1) := by decide +kernel
theorem dX6_refuseWide_9 : decode cX6_refuseWide 9 = .ok (.ireturn, 1) := by decide +kernel
set_option maxRecDepth 20000 in
theorem ggX6_refuseLong_X6_refuse : GoodIn wsX6_refuseLong wsX6_refuse := goodIn_r _ [6, 7, 8, 9, 10, 11, 12, 13, 14] (by decide +kernel) (by decide +kernel)
set_option maxRecDepth 20000 in
theorem gX6_refuseLong_X6_refuse : GoodIn wsX6_refuseLong (wsV RX6 44 RX6 yX6_refuse wsX6_refuse) := goodIn_app (goodIn_of _ (by decide +kernel)) ggX6_refuseLong_X6_refuse
theorem dX6_refuseLong_0 : decode cX6_refuseLong 0 = .ok (.ldc2_w 280, 3) := by decide +kernel
theorem dX6_refuseLong_3 : decode cX6_refuseLong 3 = .ok (.aload_n 0, 1) := by decide +kernel
theorem dX6_refuseLong_4 : decode cX6_refuseLong 4 = .ok (.iload_n 1, 1) := by decide +kernel
theorem dX6_refuseLong_5 : decode cX6_refuseLong 5 = .ok (.invokevirtual 44, 3) := by decide +kernel
theorem dX6_refuseLong_8 : decode cX6_refuseLong 8 = .ok (.i2l, 1) := by decide +kernel
theorem dX6_refuseLong_9 : decode cX6_refuseLong 9 = .ok (.lsub, 1) := by decide +kernel
theorem dX6_refuseLong_10 : decode cX6_refuseLong 10 = .ok (.lreturn, 1) := by decide +kernel
