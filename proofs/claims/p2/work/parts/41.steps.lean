abbrev xb_Me_takeFirstSteps : ByteArray := prog_7_method_2_code
def xy_Me_takeFirstSteps : MethodName := ⟨"LayerDesk$Member", "takeFirstSteps", "()V"⟩
abbrev xb_Me_settleReading : ByteArray := prog_7_method_3_code
def xy_Me_settleReading : MethodName := ⟨"LayerDesk$Member", "settleReading", "()V"⟩
abbrev xb_Ly_follow : ByteArray := prog_5_method_8_code
def xy_Ly_follow : MethodName := ⟨"LayerDesk$Layer", "follow", "([LLayerDesk$Reach;)V"⟩
theorem xd_Ly_follow_0 : decode xb_Ly_follow 0 = .ok (.iconst 0, 1) := by decide +kernel
theorem xd_Ly_follow_1 : decode xb_Ly_follow 1 = .ok (.istore_n 2, 1) := by decide +kernel
theorem xd_Ly_follow_2 : decode xb_Ly_follow 2 = .ok (.iload_n 2, 1) := by decide +kernel
theorem xd_Ly_follow_3 : decode xb_Ly_follow 3 = .ok (.aload_n 0, 1) := by decide +kernel
theorem xd_Ly_follow_4 : decode xb_Ly_follow 4 = .ok (.getfield 19, 3) := by decide +kernel
theorem xd_Ly_follow_7 : decode xb_Ly_follow 7 = .ok (.arraylength, 1) := by decide +kernel
theorem xd_Ly_follow_8 : decode xb_Ly_follow 8 = .ok (.if_icmp .ge 50, 3) := by decide +kernel
theorem xd_Ly_follow_11 : decode xb_Ly_follow 11 = .ok (.iconst 0, 1) := by decide +kernel
theorem xd_Ly_follow_12 : decode xb_Ly_follow 12 = .ok (.istore_n 3, 1) := by decide +kernel
theorem xd_Ly_follow_13 : decode xb_Ly_follow 13 = .ok (.iload_n 3, 1) := by decide +kernel
theorem xd_Ly_follow_14 : decode xb_Ly_follow 14 = .ok (.aload_n 0, 1) := by decide +kernel
theorem xd_Ly_follow_15 : decode xb_Ly_follow 15 = .ok (.getfield 19, 3) := by decide +kernel
theorem xd_Ly_follow_18 : decode xb_Ly_follow 18 = .ok (.arraylength, 1) := by decide +kernel
theorem xd_Ly_follow_19 : decode xb_Ly_follow 19 = .ok (.if_icmp .ge 33, 3) := by decide +kernel
theorem xd_Ly_follow_22 : decode xb_Ly_follow 22 = .ok (.aload_n 1, 1) := by decide +kernel
theorem xd_Ly_follow_23 : decode xb_Ly_follow 23 = .ok (.iload_n 3, 1) := by decide +kernel
theorem xd_Ly_follow_24 : decode xb_Ly_follow 24 = .ok (.aaload, 1) := by decide +kernel
theorem xd_Ly_follow_25 : decode xb_Ly_follow 25 = .ok (.aload_n 0, 1) := by decide +kernel
theorem xd_Ly_follow_26 : decode xb_Ly_follow 26 = .ok (.getfield 19, 3) := by decide +kernel
theorem xd_Ly_follow_29 : decode xb_Ly_follow 29 = .ok (.iload_n 2, 1) := by decide +kernel
theorem xd_Ly_follow_30 : decode xb_Ly_follow 30 = .ok (.aaload, 1) := by decide +kernel
theorem xd_Ly_follow_31 : decode xb_Ly_follow 31 = .ok (.invokevirtual 66, 3) := by decide +kernel
theorem xd_Ly_follow_34 : decode xb_Ly_follow 34 = .ok (.ifCond .eq 12, 3) := by decide +kernel
theorem xd_Ly_follow_37 : decode xb_Ly_follow 37 = .ok (.aload_n 1, 1) := by decide +kernel
theorem xd_Ly_follow_38 : decode xb_Ly_follow 38 = .ok (.iload_n 3, 1) := by decide +kernel
theorem xd_Ly_follow_39 : decode xb_Ly_follow 39 = .ok (.aaload, 1) := by decide +kernel
theorem xd_Ly_follow_40 : decode xb_Ly_follow 40 = .ok (.aload_n 1, 1) := by decide +kernel
theorem xd_Ly_follow_41 : decode xb_Ly_follow 41 = .ok (.iload_n 2, 1) := by decide +kernel
theorem xd_Ly_follow_42 : decode xb_Ly_follow 42 = .ok (.aaload, 1) := by decide +kernel
theorem xd_Ly_follow_43 : decode xb_Ly_follow 43 = .ok (.invokevirtual 73, 3) := by decide +kernel
theorem xd_Ly_follow_46 : decode xb_Ly_follow 46 = .ok (.iinc 3 1, 3) := by decide +kernel
theorem xd_Ly_follow_49 : decode xb_Ly_follow 49 = .ok (.goto (-36), 3) := by decide +kernel
theorem xd_Ly_follow_52 : decode xb_Ly_follow 52 = .ok (.iinc 2 1, 3) := by decide +kernel
theorem xd_Ly_follow_55 : decode xb_Ly_follow 55 = .ok (.goto (-53), 3) := by decide +kernel
theorem xd_Ly_follow_58 : decode xb_Ly_follow 58 = .ok (.return_, 1) := by decide +kernel
theorem xd_Me_settleReading_0 : decode xb_Me_settleReading 0 = .ok (.iconst 0, 1) := by decide +kernel
theorem xd_Me_settleReading_1 : decode xb_Me_settleReading 1 = .ok (.istore_n 1, 1) := by decide +kernel
theorem xd_Me_settleReading_2 : decode xb_Me_settleReading 2 = .ok (.iload_n 1, 1) := by decide +kernel
theorem xd_Me_settleReading_3 : decode xb_Me_settleReading 3 = .ok (.aload_n 0, 1) := by decide +kernel
theorem xd_Me_settleReading_4 : decode xb_Me_settleReading 4 = .ok (.getfield 44, 3) := by decide +kernel
theorem xd_Me_settleReading_7 : decode xb_Me_settleReading 7 = .ok (.arraylength, 1) := by decide +kernel
theorem xd_Me_settleReading_8 : decode xb_Me_settleReading 8 = .ok (.if_icmp .ge 47, 3) := by decide +kernel
theorem xd_Me_settleReading_11 : decode xb_Me_settleReading 11 = .ok (.aload_n 0, 1) := by decide +kernel
theorem xd_Me_settleReading_12 : decode xb_Me_settleReading 12 = .ok (.getfield 44, 3) := by decide +kernel
theorem xd_Me_settleReading_15 : decode xb_Me_settleReading 15 = .ok (.iload_n 1, 1) := by decide +kernel
theorem xd_Me_settleReading_16 : decode xb_Me_settleReading 16 = .ok (.aaload, 1) := by decide +kernel
theorem xd_Me_settleReading_17 : decode xb_Me_settleReading 17 = .ok (.ifnull 32, 3) := by decide +kernel
theorem xd_Me_settleReading_20 : decode xb_Me_settleReading 20 = .ok (.aload_n 0, 1) := by decide +kernel
theorem xd_Me_settleReading_21 : decode xb_Me_settleReading 21 = .ok (.getfield 21, 3) := by decide +kernel
theorem xd_Me_settleReading_24 : decode xb_Me_settleReading 24 = .ok (.aload_n 0, 1) := by decide +kernel
theorem xd_Me_settleReading_25 : decode xb_Me_settleReading 25 = .ok (.getfield 44, 3) := by decide +kernel
theorem xd_Me_settleReading_28 : decode xb_Me_settleReading 28 = .ok (.iload_n 1, 1) := by decide +kernel
theorem xd_Me_settleReading_29 : decode xb_Me_settleReading 29 = .ok (.aaload, 1) := by decide +kernel
theorem xd_Me_settleReading_30 : decode xb_Me_settleReading 30 = .ok (.invokevirtual 61, 3) := by decide +kernel
theorem xd_Me_settleReading_33 : decode xb_Me_settleReading 33 = .ok (.aload_n 0, 1) := by decide +kernel
theorem xd_Me_settleReading_34 : decode xb_Me_settleReading 34 = .ok (.getfield 21, 3) := by decide +kernel
theorem xd_Me_settleReading_37 : decode xb_Me_settleReading 37 = .ok (.aload_n 0, 1) := by decide +kernel
theorem xd_Me_settleReading_38 : decode xb_Me_settleReading 38 = .ok (.getfield 44, 3) := by decide +kernel
theorem xd_Me_settleReading_41 : decode xb_Me_settleReading 41 = .ok (.iload_n 1, 1) := by decide +kernel
theorem xd_Me_settleReading_42 : decode xb_Me_settleReading 42 = .ok (.aaload, 1) := by decide +kernel
theorem xd_Me_settleReading_43 : decode xb_Me_settleReading 43 = .ok (.getfield 18, 3) := by decide +kernel
theorem xd_Me_settleReading_46 : decode xb_Me_settleReading 46 = .ok (.invokevirtual 68, 3) := by decide +kernel
theorem xd_Me_settleReading_49 : decode xb_Me_settleReading 49 = .ok (.iinc 1 1, 3) := by decide +kernel
theorem xd_Me_settleReading_52 : decode xb_Me_settleReading 52 = .ok (.goto (-50), 3) := by decide +kernel
theorem xd_Me_settleReading_55 : decode xb_Me_settleReading 55 = .ok (.aload_n 0, 1) := by decide +kernel
theorem xd_Me_settleReading_56 : decode xb_Me_settleReading 56 = .ok (.getfield 21, 3) := by decide +kernel
theorem xd_Me_settleReading_59 : decode xb_Me_settleReading 59 = .ok (.aload_n 0, 1) := by decide +kernel
theorem xd_Me_settleReading_60 : decode xb_Me_settleReading 60 = .ok (.invokevirtual 72, 3) := by decide +kernel
theorem xd_Me_settleReading_63 : decode xb_Me_settleReading 63 = .ok (.return_, 1) := by decide +kernel
theorem xd_Me_takeFirstSteps_0 : decode xb_Me_takeFirstSteps 0 = .ok (.iconst 0, 1) := by decide +kernel
theorem xd_Me_takeFirstSteps_1 : decode xb_Me_takeFirstSteps 1 = .ok (.istore_n 1, 1) := by decide +kernel
theorem xd_Me_takeFirstSteps_2 : decode xb_Me_takeFirstSteps 2 = .ok (.iload_n 1, 1) := by decide +kernel
theorem xd_Me_takeFirstSteps_3 : decode xb_Me_takeFirstSteps 3 = .ok (.aload_n 0, 1) := by decide +kernel
theorem xd_Me_takeFirstSteps_4 : decode xb_Me_takeFirstSteps 4 = .ok (.getfield 44, 3) := by decide +kernel
theorem xd_Me_takeFirstSteps_7 : decode xb_Me_takeFirstSteps 7 = .ok (.arraylength, 1) := by decide +kernel
theorem xd_Me_takeFirstSteps_8 : decode xb_Me_takeFirstSteps 8 = .ok (.if_icmp .ge 105, 3) := by decide +kernel
theorem xd_Me_takeFirstSteps_11 : decode xb_Me_takeFirstSteps 11 = .ok (.aload_n 0, 1) := by decide +kernel
theorem xd_Me_takeFirstSteps_12 : decode xb_Me_takeFirstSteps 12 = .ok (.getfield 24, 3) := by decide +kernel
theorem xd_Me_takeFirstSteps_15 : decode xb_Me_takeFirstSteps 15 = .ok (.aload_n 0, 1) := by decide +kernel
theorem xd_Me_takeFirstSteps_16 : decode xb_Me_takeFirstSteps 16 = .ok (.getfield 28, 3) := by decide +kernel
theorem xd_Me_takeFirstSteps_19 : decode xb_Me_takeFirstSteps 19 = .ok (.getfield 32, 3) := by decide +kernel
theorem xd_Me_takeFirstSteps_22 : decode xb_Me_takeFirstSteps 22 = .ok (.iload_n 1, 1) := by decide +kernel
theorem xd_Me_takeFirstSteps_23 : decode xb_Me_takeFirstSteps 23 = .ok (.invokevirtual 47, 3) := by decide +kernel
theorem xd_Me_takeFirstSteps_26 : decode xb_Me_takeFirstSteps 26 = .ok (.invokevirtual 51, 3) := by decide +kernel
theorem xd_Me_takeFirstSteps_29 : decode xb_Me_takeFirstSteps 29 = .ok (.astore_n 2, 1) := by decide +kernel
theorem xd_Me_takeFirstSteps_30 : decode xb_Me_takeFirstSteps 30 = .ok (.aload_n 0, 1) := by decide +kernel
theorem xd_Me_takeFirstSteps_31 : decode xb_Me_takeFirstSteps 31 = .ok (.getfield 44, 3) := by decide +kernel
theorem xd_Me_takeFirstSteps_34 : decode xb_Me_takeFirstSteps 34 = .ok (.iload_n 1, 1) := by decide +kernel
theorem xd_Me_takeFirstSteps_35 : decode xb_Me_takeFirstSteps 35 = .ok (.aload_n 2, 1) := by decide +kernel
theorem xd_Me_takeFirstSteps_36 : decode xb_Me_takeFirstSteps 36 = .ok (.aastore, 1) := by decide +kernel
theorem xd_Me_takeFirstSteps_37 : decode xb_Me_takeFirstSteps 37 = .ok (.aload_n 2, 1) := by decide +kernel
theorem xd_Me_takeFirstSteps_38 : decode xb_Me_takeFirstSteps 38 = .ok (.ifnull 23, 3) := by decide +kernel
theorem xd_Me_takeFirstSteps_41 : decode xb_Me_takeFirstSteps 41 = .ok (.aload_n 0, 1) := by decide +kernel
theorem xd_Me_takeFirstSteps_42 : decode xb_Me_takeFirstSteps 42 = .ok (.getfield 28, 3) := by decide +kernel
theorem xd_Me_takeFirstSteps_45 : decode xb_Me_takeFirstSteps 45 = .ok (.getfield 57, 3) := by decide +kernel
theorem xd_Me_takeFirstSteps_48 : decode xb_Me_takeFirstSteps 48 = .ok (.iload_n 1, 1) := by decide +kernel
theorem xd_Me_takeFirstSteps_49 : decode xb_Me_takeFirstSteps 49 = .ok (.baload, 1) := by decide +kernel
theorem xd_Me_takeFirstSteps_50 : decode xb_Me_takeFirstSteps 50 = .ok (.ifCond .ne 11, 3) := by decide +kernel
theorem xd_Me_takeFirstSteps_53 : decode xb_Me_takeFirstSteps 53 = .ok (.aload_n 0, 1) := by decide +kernel
theorem xd_Me_takeFirstSteps_54 : decode xb_Me_takeFirstSteps 54 = .ok (.getfield 12, 3) := by decide +kernel
theorem xd_Me_takeFirstSteps_57 : decode xb_Me_takeFirstSteps 57 = .ok (.aload_n 2, 1) := by decide +kernel
theorem xd_Me_takeFirstSteps_58 : decode xb_Me_takeFirstSteps 58 = .ok (.invokevirtual 61, 3) := by decide +kernel
theorem xd_Me_takeFirstSteps_61 : decode xb_Me_takeFirstSteps 61 = .ok (.aload_n 2, 1) := by decide +kernel
theorem xd_Me_takeFirstSteps_62 : decode xb_Me_takeFirstSteps 62 = .ok (.ifnull 45, 3) := by decide +kernel
theorem xd_Me_takeFirstSteps_65 : decode xb_Me_takeFirstSteps 65 = .ok (.aload_n 0, 1) := by decide +kernel
theorem xd_Me_takeFirstSteps_66 : decode xb_Me_takeFirstSteps 66 = .ok (.getfield 28, 3) := by decide +kernel
theorem xd_Me_takeFirstSteps_69 : decode xb_Me_takeFirstSteps 69 = .ok (.getfield 65, 3) := by decide +kernel
theorem xd_Me_takeFirstSteps_72 : decode xb_Me_takeFirstSteps 72 = .ok (.iload_n 1, 1) := by decide +kernel
theorem xd_Me_takeFirstSteps_73 : decode xb_Me_takeFirstSteps 73 = .ok (.baload, 1) := by decide +kernel
theorem xd_Me_takeFirstSteps_74 : decode xb_Me_takeFirstSteps 74 = .ok (.ifCond .eq 33, 3) := by decide +kernel
theorem xd_Me_takeFirstSteps_77 : decode xb_Me_takeFirstSteps 77 = .ok (.aload_n 0, 1) := by decide +kernel
theorem xd_Me_takeFirstSteps_78 : decode xb_Me_takeFirstSteps 78 = .ok (.getfield 18, 3) := by decide +kernel
theorem xd_Me_takeFirstSteps_81 : decode xb_Me_takeFirstSteps 81 = .ok (.aload_n 2, 1) := by decide +kernel
theorem xd_Me_takeFirstSteps_82 : decode xb_Me_takeFirstSteps 82 = .ok (.invokevirtual 61, 3) := by decide +kernel
theorem xd_Me_takeFirstSteps_85 : decode xb_Me_takeFirstSteps 85 = .ok (.aload_n 2, 1) := by decide +kernel
theorem xd_Me_takeFirstSteps_86 : decode xb_Me_takeFirstSteps 86 = .ok (.getfield 24, 3) := by decide +kernel
theorem xd_Me_takeFirstSteps_89 : decode xb_Me_takeFirstSteps 89 = .ok (.aload_n 0, 1) := by decide +kernel
theorem xd_Me_takeFirstSteps_90 : decode xb_Me_takeFirstSteps 90 = .ok (.getfield 24, 3) := by decide +kernel
theorem xd_Me_takeFirstSteps_93 : decode xb_Me_takeFirstSteps 93 = .ok (.if_acmp .eq 14, 3) := by decide +kernel
theorem xd_Me_takeFirstSteps_96 : decode xb_Me_takeFirstSteps 96 = .ok (.aload_n 0, 1) := by decide +kernel
theorem xd_Me_takeFirstSteps_97 : decode xb_Me_takeFirstSteps 97 = .ok (.getfield 18, 3) := by decide +kernel
theorem xd_Me_takeFirstSteps_100 : decode xb_Me_takeFirstSteps 100 = .ok (.aload_n 2, 1) := by decide +kernel
theorem xd_Me_takeFirstSteps_101 : decode xb_Me_takeFirstSteps 101 = .ok (.getfield 18, 3) := by decide +kernel
theorem xd_Me_takeFirstSteps_104 : decode xb_Me_takeFirstSteps 104 = .ok (.invokevirtual 68, 3) := by decide +kernel
theorem xd_Me_takeFirstSteps_107 : decode xb_Me_takeFirstSteps 107 = .ok (.iinc 1 1, 3) := by decide +kernel
theorem xd_Me_takeFirstSteps_110 : decode xb_Me_takeFirstSteps 110 = .ok (.goto (-108), 3) := by decide +kernel
theorem xd_Me_takeFirstSteps_113 : decode xb_Me_takeFirstSteps 113 = .ok (.return_, 1) := by decide +kernel
theorem ys3_0 : (Cond.fieldLink "LayerDesk$Member" 44 "LayerDesk$Member" "required" "[LLayerDesk$Member;") ∈ wT := wT_t (List.mem_append_right _ (List.mem_append_right _ (List.mem_append_left _ (List.mem_of_getElem? (i := 186) rfl)))) rfl
theorem ys3_1 : (Cond.fieldLink "LayerDesk$Member" 24 "LayerDesk$Member" "home" "LLayerDesk$Layer;") ∈ wT := wT_t (List.mem_append_right _ (List.mem_append_right _ (List.mem_append_left _ (List.mem_of_getElem? (i := 179) rfl)))) rfl
theorem ys3_2 : (Cond.fieldLink "LayerDesk$Member" 28 "LayerDesk$Member" "descriptor" "LLayerDesk$Descriptor;") ∈ wT := wT_t (List.mem_append_right _ (List.mem_append_right _ (List.mem_append_left _ (List.mem_of_getElem? (i := 181) rfl)))) rfl
theorem ys3_3 : (Cond.fieldLink "LayerDesk$Member" 32 "LayerDesk$Descriptor" "required" "LLayerDesk$Names;") ∈ wT := wT_t (List.mem_append_right _ (List.mem_append_left _ (List.mem_of_getElem? (i := 67) rfl))) rfl
theorem ys3_4 : (Cond.code xy_Na_at xb_Na_at 2 (some .int)) ∈ wT := wT_t (List.mem_append_right _ (List.mem_append_right _ (List.mem_append_left _ (List.mem_of_getElem? (i := 93) rfl)))) rfl
theorem ys3_5 : (Cond.methodLink "LayerDesk$Member" 47 xy_Na_at) ∈ wT := wT_t (List.mem_append_right _ (List.mem_append_right _ (List.mem_append_left _ (List.mem_of_getElem? (i := 216) rfl)))) rfl
theorem ys3_6 : (Cond.instanceMethod xy_Na_at) ∈ wT := wT_t (List.mem_append_right _ (List.mem_append_right _ (List.mem_append_left _ (List.mem_of_getElem? (i := 91) rfl)))) rfl
theorem ys3_7 : (Cond.selects "LayerDesk$Names" xy_Na_at xy_Na_at) ∈ wT := wT_t (List.mem_append_right _ (List.mem_append_right _ (List.mem_append_left _ (List.mem_of_getElem? (i := 92) rfl)))) rfl
theorem ys3_8 : (Cond.initialized "LayerDesk$Names") ∈ wT := wT_t (List.mem_append_left _ (List.mem_of_getElem? (i := 11) rfl)) rfl
theorem ys3_9 : (Cond.code xy_Ly_lookUp xb_Ly_lookUp 4 (some (.object "LayerDesk$Member"))) ∈ wT := wT_t (List.mem_append_right _ (List.mem_append_right _ (List.mem_append_left _ (List.mem_of_getElem? (i := 85) rfl)))) rfl
theorem ys3_10 : (Cond.methodLink "LayerDesk$Member" 51 xy_Ly_lookUp) ∈ wT := wT_t (List.mem_append_right _ (List.mem_append_right _ (List.mem_append_left _ (List.mem_of_getElem? (i := 217) rfl)))) rfl
theorem ys3_11 : (Cond.instanceMethod xy_Ly_lookUp) ∈ wT := wT_t (List.mem_append_right _ (List.mem_append_right _ (List.mem_append_left _ (List.mem_of_getElem? (i := 83) rfl)))) rfl
theorem ys3_12 : (Cond.selects "LayerDesk$Layer" xy_Ly_lookUp xy_Ly_lookUp) ∈ wT := wT_t (List.mem_append_right _ (List.mem_append_right _ (List.mem_append_left _ (List.mem_of_getElem? (i := 84) rfl)))) rfl
theorem ys3_13 : (Cond.initialized "LayerDesk$Layer") ∈ wT := wT_t (List.mem_append_left _ (List.mem_of_getElem? (i := 19) rfl)) rfl
theorem ys3_14 : (Cond.fieldLink "LayerDesk$Member" 57 "LayerDesk$Descriptor" "optional" "[Z") ∈ wT := wT_t (List.mem_append_right _ (List.mem_append_left _ (List.mem_of_getElem? (i := 73) rfl))) rfl
theorem ys3_15 : (Cond.fieldLink "LayerDesk$Member" 65 "LayerDesk$Descriptor" "transitive" "[Z") ∈ wT := wT_t (List.mem_append_right _ (List.mem_append_left _ (List.mem_of_getElem? (i := 71) rfl))) rfl
theorem ys3_16 : (Cond.fieldLink "LayerDesk$Member" 18 "LayerDesk$Member" "carried" "LLayerDesk$Reach;") ∈ wT := wT_t (List.mem_append_right _ (List.mem_append_right _ (List.mem_append_left _ (List.mem_of_getElem? (i := 189) rfl)))) rfl
theorem ys3_17 : (Cond.code xy_Re_mark xb_Re_mark 2 none) ∈ wT := wT_t (List.mem_append_right _ (List.mem_append_right _ (List.mem_append_left _ (List.mem_of_getElem? (i := 221) rfl)))) rfl
theorem ys3_18 : (Cond.methodLink "LayerDesk$Member" 61 xy_Re_mark) ∈ wT := wT_t (List.mem_append_right _ (List.mem_append_right _ (List.mem_append_left _ (List.mem_of_getElem? (i := 218) rfl)))) rfl
theorem ys3_19 : (Cond.instanceMethod xy_Re_mark) ∈ wT := wT_t (List.mem_append_right _ (List.mem_append_right _ (List.mem_append_left _ (List.mem_of_getElem? (i := 219) rfl)))) rfl
theorem ys3_20 : (Cond.selects "LayerDesk$Reach" xy_Re_mark xy_Re_mark) ∈ wT := wT_t (List.mem_append_right _ (List.mem_append_right _ (List.mem_append_left _ (List.mem_of_getElem? (i := 220) rfl)))) rfl
theorem ys3_21 : (Cond.initialized "LayerDesk$Reach") ∈ wT := wT_t (List.mem_append_left _ (List.mem_of_getElem? (i := 21) rfl)) rfl
theorem ys3_22 : (Cond.fieldLink "LayerDesk$Member" 12 "LayerDesk$Member" "leading" "LLayerDesk$Reach;") ∈ wT := wT_t (List.mem_append_right _ (List.mem_append_right _ (List.mem_append_left _ (List.mem_of_getElem? (i := 187) rfl)))) rfl
theorem ys3_23 : (Cond.code xy_Re_join xb_Re_join 3 none) ∈ wT := wT_t (List.mem_append_right _ (List.mem_append_right _ (List.mem_append_left _ (List.mem_of_getElem? (i := 225) rfl)))) rfl
theorem ys3_24 : (Cond.methodLink "LayerDesk$Member" 68 xy_Re_join) ∈ wT := wT_t (List.mem_append_right _ (List.mem_append_right _ (List.mem_append_left _ (List.mem_of_getElem? (i := 222) rfl)))) rfl
theorem ys3_25 : (Cond.instanceMethod xy_Re_join) ∈ wT := wT_t (List.mem_append_right _ (List.mem_append_right _ (List.mem_append_left _ (List.mem_of_getElem? (i := 223) rfl)))) rfl
theorem ys3_26 : (Cond.selects "LayerDesk$Reach" xy_Re_join xy_Re_join) ∈ wT := wT_t (List.mem_append_right _ (List.mem_append_right _ (List.mem_append_left _ (List.mem_of_getElem? (i := 224) rfl)))) rfl
theorem ys3_27 : (Cond.fieldLink "LayerDesk$Member" 21 "LayerDesk$Member" "reading" "LLayerDesk$Reach;") ∈ wT := wT_t (List.mem_append_right _ (List.mem_append_right _ (List.mem_append_left _ (List.mem_of_getElem? (i := 191) rfl)))) rfl
theorem ys3_28 : (Cond.code xy_Re_unmark xb_Re_unmark 2 none) ∈ wT := wT_t (List.mem_append_right _ (List.mem_append_right _ (List.mem_append_left _ (List.mem_of_getElem? (i := 239) rfl)))) rfl
theorem ys3_29 : (Cond.methodLink "LayerDesk$Member" 72 xy_Re_unmark) ∈ wT := wT_t (List.mem_append_right _ (List.mem_append_right _ (List.mem_append_left _ (List.mem_of_getElem? (i := 236) rfl)))) rfl
theorem ys3_30 : (Cond.instanceMethod xy_Re_unmark) ∈ wT := wT_t (List.mem_append_right _ (List.mem_append_right _ (List.mem_append_left _ (List.mem_of_getElem? (i := 237) rfl)))) rfl
theorem ys3_31 : (Cond.selects "LayerDesk$Reach" xy_Re_unmark xy_Re_unmark) ∈ wT := wT_t (List.mem_append_right _ (List.mem_append_right _ (List.mem_append_left _ (List.mem_of_getElem? (i := 238) rfl)))) rfl
theorem ys3_32 : (Cond.fieldLink "LayerDesk$Layer" 19 "LayerDesk$Layer" "members" "[LLayerDesk$Member;") ∈ wT := wT_t (List.mem_append_right _ (List.mem_append_right _ (List.mem_append_left _ (List.mem_of_getElem? (i := 147) rfl)))) rfl
theorem ys3_33 : (Cond.code xy_Re_marks xb_Re_marks 2 (some .boolean)) ∈ wT := wT_t (List.mem_append_left _ (List.mem_of_getElem? (i := 177) rfl)) rfl
theorem ys3_34 : (Cond.methodLink "LayerDesk$Layer" 66 xy_Re_marks) ∈ wT := wT_t (List.mem_append_right _ (List.mem_append_right _ (List.mem_append_left _ (List.mem_of_getElem? (i := 230) rfl)))) rfl
theorem ys3_35 : (Cond.instanceMethod xy_Re_marks) ∈ wT := wT_t (List.mem_append_left _ (List.mem_of_getElem? (i := 175) rfl)) rfl
theorem ys3_36 : (Cond.selects "LayerDesk$Reach" xy_Re_marks xy_Re_marks) ∈ wT := wT_t (List.mem_append_left _ (List.mem_of_getElem? (i := 176) rfl)) rfl
theorem ys3_37 : (Cond.methodLink "LayerDesk$Layer" 73 xy_Re_join) ∈ wT := wT_t (List.mem_append_right _ (List.mem_append_right _ (List.mem_append_left _ (List.mem_of_getElem? (i := 231) rfl)))) rfl
set_option maxHeartbeats 4000000 in
set_option maxRecDepth 100000 in
theorem xc_Me_takeFirstSteps (l : Launch) (D : va_G) (kA : Nat → ClassId) (sz : Nat) (ad : Nat → Nat → Nat) (E : Nat → Nat → va_E) (RL : List (Nat × Nat)) (nd : Nat) (nL : Nat) (n : Nat) (k : Nat) (d : Nat) (rs : Nat) (fr : Nat → Option Nat) (ga : Nat → Int32) (gb : Nat → Int32) (ym0 : (20 + n, 10 + 10 * k) ∈ RL) (yc0 : E (20 + n) (10 + 10 * k) = .inr (6, [.ref (ad (20 + n) 0), .ref (ad (1 + d) 0), .ref (ad (20 + n) (11 + 10 * k)), .ref (ad (20 + n) (12 + 10 * k)), .ref (ad (20 + n) (13 + 10 * k)), .ref (ad (20 + n) (14 + 10 * k))])) (ym1 : (20 + n, 11 + 10 * k) ∈ RL) (yc1 : E (20 + n) (11 + 10 * k) = .inl (kA 6, rs, .inr (.inr (.inr (.inr fr))))) (ym2 : (20 + n, 12 + 10 * k) ∈ RL) (yc2 : E (20 + n) (12 + 10 * k) = .inr (10, [.ref (ad (20 + n) (15 + 10 * k))])) (ym3 : (20 + n, 13 + 10 * k) ∈ RL) (yc3 : E (20 + n) (13 + 10 * k) = .inr (10, [.ref (ad (20 + n) (16 + 10 * k))])) (ym4 : (20 + n, 15 + 10 * k) ∈ RL) (yc4 : E (20 + n) (15 + 10 * k) = .inl (kA 0, 6, .inl ga)) (ym5 : (20 + n, 16 + 10 * k) ∈ RL) (yc5 : E (20 + n) (16 + 10 * k) = .inl (kA 0, 6, .inl gb)) (hDIs : DIs kA ad E RL nd) (hLIs : LIs kA ad E RL nd nL) (hnd12 : nd ≤ 12) (hnL : nL ≤ 6) (hn : n < nL) (hd : d < nd) (hrs : rs ≤ 5) : Met l xy_Me_takeFirstSteps (.code xy_Me_takeFirstSteps xb_Me_takeFirstSteps 3 none :: wT) { frames := 1, cells := 0, slots := 0, locals := 23 } (va_Pc [.ref (ad (20 + n) (10 + 10 * k))] (xPre D kA sz (rp ad E RL))) (va_Qv (fun (u : Nat → Nat → va_E) => ∃ fr2 : Nat → Option Nat, ∃ ga2 : Nat → Int32, ∃ gb2 : Nat → Int32, (RQ kA ad u RL nd n rs fr2) ∧ (u (20 + n) (11 + 10 * k) = .inl (kA 6, rs, .inr (.inr (.inr (.inr fr2))))) ∧ (u (20 + n) (15 + 10 * k) = .inl (kA 0, 6, .inl ga2)) ∧ (u (20 + n) (16 + 10 * k) = .inl (kA 0, 6, .inl gb2)) ∧ ((∀ b2 o2, ¬ (b2 = 20 + n ∧ o2 = 11 + 10 * k) → ¬ (b2 = 20 + n ∧ o2 = 15 + 10 * k) → ¬ (b2 = 20 + n ∧ o2 = 16 + 10 * k) → u b2 o2 = E b2 o2))) (fun (u : Nat → Nat → va_E) t => va_P D xcl (rp ad u RL) t.heap ∧ va_D (va_A (rp ad E RL) sz) (rp ad u RL)) (va_A (rp ad E RL) sz)) 0 0 (va_A (rp ad E RL) sz) := by
  refine Met.ofW (cc := xb_Me_takeFirstSteps) (maxL := 3) (ret := none) (by decide) rfl ?_
  intro p e s m args below meth c s₁ B hml hv
  obtain ⟨rfl, hsz, hP, hK, hD0⟩ := hv
  have hx := B.exec
  have hb := B.bytes
  have hr := B.returns
  have hT := x_hT B.pre
  have hown : s.vm.findClass xR_Me = some m.cls := findClass_of_methodNamed B.named
  have hlocks := B.notSynchronized
  subst hsz
  have hD := hD0.self (sz := s.heap.size)
  generalize hAe : va_A (rp ad E RL) s.heap.size = A at hD ⊢
  have hA : ∀ q : Nat, s.heap.size ≤ q → A q := fun q h => by rw [← hAe]; exact Or.inr h
  have hS : va_S A s.heap s.heap [] := va_S.rf
  have hl := lv_entry ([.ref (ad (20 + n) (10 + 10 * k))]) (n := 3) (Nat.le_of_ble_eq_true rfl)
  rw [lg_entry_eq]
  generalize (lg_sl ([.ref (ad (20 + n) (10 + 10 * k))]) ++ List.replicate (3 - (lg_sl ([.ref (ad (20 + n) (10 + 10 * k))])).length) Slot.unset).toArray = ls at hl ⊢
  have hl : lv_has ls 3 [(0, .ref (ad (20 + n) (10 + 10 * k)))] := hl
  have hP : va_P D xcl (rp ad E RL) s.heap := hP
  have hDIs0 := hDIs
  have hLIs0 := hLIs
  refine lv_iconst (v := 0) hx hb xd_Me_takeFirstSteps_0 (by decide) ?_
  refine lv_istore_n hx hb xd_Me_takeFirstSteps_1 rfl hl (Nat.le_of_ble_eq_true rfl) rfl (fun ls hl => ?_)
  have hl : lv_has ls 3 [(1, .int 0), (0, .ref (ad (20 + n) (10 + 10 * k)))] := hl
  refine xlab (σ := Nat × (Nat → Nat → va_E) × (Nat → Option Nat) × (Nat → Int32) × (Nat → Int32)) (ml := 3) 2 (fun (i, E1, fr1, ga1, gb1) => [(1, .int (nI i)), (0, .ref (ad (20 + n) (10 + 10 * k)))]) (fun (i, E1, fr1, ga1, gb1) => []) (fun (i, E1, fr1, ga1, gb1) => rp ad E1 RL) (fun (i, E1, fr1, ga1, gb1) => (i ≤ rs) ∧ (E1 (20 + n) (11 + 10 * k) = .inl (kA 6, rs, .inr (.inr (.inr (.inr fr1))))) ∧ (E1 (20 + n) (15 + 10 * k) = .inl (kA 0, 6, .inl ga1)) ∧ (E1 (20 + n) (16 + 10 * k) = .inl (kA 0, 6, .inl gb1)) ∧ (∀ b2 o2, ¬ (b2 = 20 + n ∧ o2 = 11 + 10 * k) → ¬ (b2 = 20 + n ∧ o2 = 15 + 10 * k) → ¬ (b2 = 20 + n ∧ o2 = 16 + 10 * k) → E1 b2 o2 = E b2 o2) ∧ (RQ kA ad E1 RL nd n i fr1)) (fun (i, E1, fr1, ga1, gb1) => rs - i) ?_ (0, E, fr, ga, gb) _ _ _ (lv_sub hl [0, 1] rfl) hP hD hS ⟨(show 0 ≤ rs from by first | assumption | omega), (show E (20 + n) (11 + 10 * k) = .inl (kA 6, rs, .inr (.inr (.inr (.inr fr)))) from yc1), (show E (20 + n) (15 + 10 * k) = .inl (kA 0, 6, .inl ga) from yc4), (show E (20 + n) (16 + 10 * k) = .inl (kA 0, 6, .inl gb) from yc5), (show ∀ b2 o2, ¬ (b2 = 20 + n ∧ o2 = 11 + 10 * k) → ¬ (b2 = 20 + n ∧ o2 = 15 + 10 * k) → ¬ (b2 = 20 + n ∧ o2 = 16 + 10 * k) → E b2 o2 = E b2 o2 from fun b2 o2 h09 h19 h29 => rfl), (show RQ kA ad E RL nd n 0 fr from fun j hj => absurd hj (by omega))⟩
  intro n9 ih1 a9 ls H locs hμ hl hP hD hS hI
  subst hμ
  obtain ⟨i, E1, fr1, ga1, gb1⟩ := a9
  obtain ⟨hi, hc1, hc5, hc6, hfr, hRQ⟩ := hI
  have hi : i ≤ rs := hi
  have hc1 : E1 (20 + n) (11 + 10 * k) = .inl (kA 6, rs, .inr (.inr (.inr (.inr fr1)))) := hc1
  have hc5 : E1 (20 + n) (15 + 10 * k) = .inl (kA 0, 6, .inl ga1) := hc5
  have hc6 : E1 (20 + n) (16 + 10 * k) = .inl (kA 0, 6, .inl gb1) := hc6
  have hfr : ∀ b2 o2, ¬ (b2 = 20 + n ∧ o2 = 11 + 10 * k) → ¬ (b2 = 20 + n ∧ o2 = 15 + 10 * k) → ¬ (b2 = 20 + n ∧ o2 = 16 + 10 * k) → E1 b2 o2 = E b2 o2 := hfr
  have hRQ : RQ kA ad E1 RL nd n i fr1 := hRQ
  have hl : lv_has ls 3 [(1, .int (nI i)), (0, .ref (ad (20 + n) (10 + 10 * k)))] := hl
  have hP : va_P D xcl (rp ad E1 RL) H := hP
  have hD : va_D A (rp ad E1 RL) := hD
  have hRU : RU kA E E1 := RU3 (b := 20 + n) (by omega) yc1 yc4 yc5 hc1 hc5 hc6 hfr
  have hDIs := DIs_RU hRU hnd12 hDIs0
  have hLIs := LIs_RU hRU hLIs0
  have c_2 : E1 (20 + n) (10 + 10 * k) = .inr (6, [.ref (ad (20 + n) 0), .ref (ad (1 + d) 0), .ref (ad (20 + n) (11 + 10 * k)), .ref (ad (20 + n) (12 + 10 * k)), .ref (ad (20 + n) (13 + 10 * k)), .ref (ad (20 + n) (14 + 10 * k))]) := (hfr (20 + n) (10 + 10 * k) (by omega) (by omega) (by omega)).trans yc0
  have c_3 : E1 (20 + n) (12 + 10 * k) = .inr (10, [.ref (ad (20 + n) (15 + 10 * k))]) := (hfr (20 + n) (12 + 10 * k) (by omega) (by omega) (by omega)).trans yc2
  have c_4 : E1 (20 + n) (13 + 10 * k) = .inr (10, [.ref (ad (20 + n) (16 + 10 * k))]) := (hfr (20 + n) (13 + 10 * k) (by omega) (by omega) (by omega)).trans yc3
  refine lv_iload_n hx hb xd_Me_takeFirstSteps_2 rfl (lv_at hl 0 rfl) ?_
  refine lv_aload_n hx hb xd_Me_takeFirstSteps_3 rfl (lv_at hl 1 rfl) ?_
  refine px_get (D := D) (ci := 6) (v := .ref (ad (20 + n) (11 + 10 * k))) (C := xR_Me) (T := xT_Me) (N := 6) hx hb hT xi_Me hown hK.1 hP ym0 c_2 rfl 2 (by decide) (hT _ ys3_0) (fun _ h9 => h9) rfl xd_Me_takeFirstSteps_4 ?_
  refine px_alen hx hb hK.1 hP ym1 hc1 6 rfl xd_Me_takeFirstSteps_7 ?_
  refine W.eq (g2 := F0 m 8 ls [.int (nI rs), .int (nI i)]) rfl ?_
  refine xn_ge (a := i) (b := rs) (tgt := 113) hx hb xd_Me_takeFirstSteps_8 (by decide) (by omega) (by omega) (fun hc5 => ?_) (fun hc5 => ?_)
  · exact W.vret hx hb hr (fun t ht hW => ⟨⟨E1, rfl, ⟨fr1, ga1, gb1, (fun j hj => hRQ j (by omega)), hc1, hc5, hc6, (fun b2 o2 h09 h19 h29 => by show E1 b2 o2 = _; rw [hfr b2 o2 (by omega) (by omega) (by omega)])⟩, by rw [ht]; exact hP, hD⟩, hS.F ht⟩) hS.2.2 xd_Me_takeFirstSteps_113
  · refine lv_aload_n hx hb xd_Me_takeFirstSteps_11 rfl (lv_at hl 1 rfl) ?_
    refine px_get (D := D) (ci := 6) (v := .ref (ad (20 + n) 0)) (C := xR_Me) (T := xT_Me) (N := 6) hx hb hT xi_Me hown hK.1 hP ym0 c_2 rfl 0 (by decide) (hT _ ys3_1) (fun _ h9 => h9) rfl xd_Me_takeFirstSteps_12 ?_
    refine lv_aload_n hx hb xd_Me_takeFirstSteps_15 rfl (lv_at hl 1 rfl) ?_
    refine px_get (D := D) (ci := 6) (v := .ref (ad (1 + d) 0)) (C := xR_Me) (T := xT_Me) (N := 6) hx hb hT xi_Me hown hK.1 hP ym0 c_2 rfl 1 (by decide) (hT _ ys3_2) (fun _ h9 => h9) rfl xd_Me_takeFirstSteps_16 ?_
    obtain ⟨hm_6, fd_6, nm_6, sd_6, k0_6, k1_6, k2_6, k3_6, f0_6, f1_6, f2_6, f3_6, fe_6, fo_6, tr_6, op_6, hk0_6, hk1_6, hk2_6, hk3_6, q0_6, q1_6, q2_6, q3_6, q4_6, q5_6, q6_6, q7_6, q8_6, q9_6, q10_6, q11_6, q12_6, hg_6⟩ := id (hDIs d (by omega))
    have c_7 : E1 (1 + d) 0 = .inr (7, [.int (nI d), .int fd_6, .int nm_6, .ref (ad (1 + d) 1), .ref (ad (1 + d) 9), .ref (ad (1 + d) 10), .ref (ad (1 + d) 2), .ref (ad (1 + d) 11), .ref (ad (1 + d) 12), .ref (ad (1 + d) 3), .ref (ad (1 + d) 4), .int sd_6]) := q0_6
    have m_8 : (1 + d, 0) ∈ RL := hm_6 0 (by omega)
    have c_9 : E1 (1 + d) 1 = .inr (8, [.ref (ad (1 + d) 5), .int (nI k0_6)]) := q1_6
    have m_10 : (1 + d, 1) ∈ RL := hm_6 1 (by omega)
    have c_11 : E1 (1 + d) 2 = .inr (8, [.ref (ad (1 + d) 6), .int (nI k1_6)]) := q2_6
    have m_12 : (1 + d, 2) ∈ RL := hm_6 2 (by omega)
    have c_13 : E1 (1 + d) 3 = .inr (8, [.ref (ad (1 + d) 7), .int (nI k2_6)]) := q3_6
    have m_14 : (1 + d, 3) ∈ RL := hm_6 3 (by omega)
    have c_15 : E1 (1 + d) 4 = .inr (8, [.ref (ad (1 + d) 8), .int (nI k3_6)]) := q4_6
    have m_16 : (1 + d, 4) ∈ RL := hm_6 4 (by omega)
    have c_17 : E1 (1 + d) 5 = .inl (kA 0, 6, .inl f0_6) := q5_6
    have m_18 : (1 + d, 5) ∈ RL := hm_6 5 (by omega)
    have c_19 : E1 (1 + d) 6 = .inl (kA 0, 5, .inl f1_6) := q6_6
    have m_20 : (1 + d, 6) ∈ RL := hm_6 6 (by omega)
    have c_21 : E1 (1 + d) 7 = .inl (kA 0, 3, .inl f2_6) := q7_6
    have m_22 : (1 + d, 7) ∈ RL := hm_6 7 (by omega)
    have c_23 : E1 (1 + d) 8 = .inl (kA 0, 3, .inl f3_6) := q8_6
    have m_24 : (1 + d, 8) ∈ RL := hm_6 8 (by omega)
    have c_25 : E1 (1 + d) 9 = .inl (kA 8, 6, .inr (.inr (.inr (.inr fe_6)))) := q9_6
    have m_26 : (1 + d, 9) ∈ RL := hm_6 9 (by omega)
    have c_27 : E1 (1 + d) 10 = .inl (kA 8, 6, .inr (.inr (.inr (.inr fo_6)))) := q10_6
    have m_28 : (1 + d, 10) ∈ RL := hm_6 10 (by omega)
    have c_29 : E1 (1 + d) 11 = .inl (kA 2, 5, .inl tr_6) := q11_6
    have m_30 : (1 + d, 11) ∈ RL := hm_6 11 (by omega)
    have c_31 : E1 (1 + d) 12 = .inl (kA 2, 5, .inl op_6) := q12_6
    have m_32 : (1 + d, 12) ∈ RL := hm_6 12 (by omega)
    have hg_6 : ∀ w9, w9 < k0_6 → fe_6 w9 = some (ad (1 + d) (20 + 3 * w9)) ∧ fo_6 w9 = some (ad (1 + d) (38 + 3 * w9)) ∧ GI kA (ad (1 + d)) (E1 (1 + d)) (fun o => (1 + d, o) ∈ RL) (20 + 3 * w9) (21 + 3 * w9) (22 + 3 * w9) ∧ GI kA (ad (1 + d)) (E1 (1 + d)) (fun o => (1 + d, o) ∈ RL) (38 + 3 * w9) (39 + 3 * w9) (40 + 3 * w9) := hg_6
    refine px_get (D := D) (ci := 7) (v := .ref (ad (1 + d) 2)) (C := xR_Ds) (T := xT_Ds) (N := 12) hx hb hT xi_Ds hown hK.1 hP m_8 c_7 rfl 6 (by decide) (hT _ ys3_3) (fun _ h9 => h9) rfl xd_Me_takeFirstSteps_19 ?_
    refine lv_iload_n hx hb xd_Me_takeFirstSteps_22 rfl (lv_at hl 0 rfl) ?_
    have hFc := px_free hD hS hA
    refine va_calli (va_runV (As := [.int (nI i)]) (rest := [.ref (ad (20 + n) 0)]) ⟨hx, hb, hml, hown, hT⟩ (xc_Na_at l D kA H.size ad E1 RL (1 + d) 2 6 5 k1_6 f1_6 i m_12 c_11 m_20 c_19 (by first | assumption | omega) (by first | assumption | omega) (by first | assumption | omega)) (cwV 1 hT (wT_V ys3_5 ys3_6 ys3_7 ys3_8 ys3_4) rfl rfl rfl (by decide +kernel) ⟨Nat.le_of_ble_eq_true rfl, Nat.le_of_ble_eq_true rfl⟩) (px_preV hK hP hD m_12 c_11 rfl) rfl rfl hl.1 rfl (lv_room (Nat.le_of_ble_eq_true rfl)) xd_Me_takeFirstSteps_23 ⟨(Nat.le_of_ble_eq_true rfl), (Nat.le_of_ble_eq_true rfl)⟩) hS (fun q _ h => hFc q h) hFc (fun r33 u34 t H1 locs ht hvm hp35 hB hz1 hk1 hS => ?_)
    obtain ⟨hP1, hD1⟩ := hB
    rw [ht] at hP1
    have hD1 := hD1.weaken (fun _ _ _ h => hFc _ h)
    generalize H1 = H at hP1 hS ⊢
    have hP := hP1
    have hD := hD1
    have hP : va_P D xcl (rp ad E1 RL) H := hP
    have hD : va_D A (rp ad E1 RL) := hD
    have hFc := px_free hD hS hA
    obtain ⟨m0_36, m1_36, pv_36, op_36, mk_36, fm_36, hmk_36, hpv_36, q0_36, q1_36, hk_36⟩ := id (hLIs n (by omega))
    have c_37 : E1 (20 + n) 0 = .inr (5, [.int (nI n), pv_36, .ref (ad (20 + n) 1), .int op_36]) := q0_36
    have m_38 : (20 + n, 0) ∈ RL := m0_36
    have c_39 : E1 (20 + n) 1 = .inl (kA 6, mk_36, .inr (.inr (.inr (.inr fm_36)))) := q1_36
    have m_40 : (20 + n, 1) ∈ RL := m1_36
    refine va_callq (va_runV (As := [.int r33]) (rest := []) ⟨hx, hb, hml, hown, hT⟩ (xc_Ly_lookUp l D kA H.size ad E1 RL nd nL n r33 (by first | assumption | omega) (by first | assumption | omega) (by first | assumption | omega) (by first | assumption | omega)) (cwV 1 hT (wT_V ys3_10 ys3_11 ys3_12 ys3_13 ys3_9) rfl rfl rfl (by decide +kernel) ⟨Nat.le_of_ble_eq_true rfl, Nat.le_of_ble_eq_true rfl⟩) (px_preV hK hP hD m_38 c_37 rfl) rfl rfl hl.1 rfl (lv_room (Nat.le_of_ble_eq_true rfl)) xd_Me_takeFirstSteps_26 ⟨(Nat.le_of_ble_eq_true rfl), (Nat.le_of_ble_eq_true rfl)⟩) hS (fun q _ h => hFc q h) hFc (fun r41 u42 t H1 locs ht hvm hp43 hB hz1 hk1 hS => ?_)
    obtain ⟨hP1, hD1⟩ := hB
    rw [ht] at hP1
    have hD1 := hD1.weaken (fun _ _ _ h => hFc _ h)
    generalize H1 = H at hP1 hS ⊢
    have hP := hP1
    have hD := hD1
    have hP : va_P D xcl (rp ad E1 RL) H := hP
    have hD : va_D A (rp ad E1 RL) := hD
    rcases hp43 with rfl | ⟨z44, z45, z46, rfl, z47⟩
    · refine W.eq (g2 := F0 m 29 ls [.null]) rfl ?_
      refine lv_astore_nN hx hb xd_Me_takeFirstSteps_29 rfl hl (Nat.le_of_ble_eq_true rfl) rfl (fun ls hl => ?_)
      have hl : lv_has ls 3 [(2, .null), (1, .int (nI i)), (0, .ref (ad (20 + n) (10 + 10 * k)))] := hl
      refine lv_aload_n hx hb xd_Me_takeFirstSteps_30 rfl (lv_at hl 2 rfl) ?_
      refine px_get (D := D) (ci := 6) (v := .ref (ad (20 + n) (11 + 10 * k))) (C := xR_Me) (T := xT_Me) (N := 6) hx hb hT xi_Me hown hK.1 hP ym0 c_2 rfl 2 (by decide) (hT _ ys3_0) (fun _ h9 => h9) rfl xd_Me_takeFirstSteps_31 ?_
      refine lv_iload_n hx hb xd_Me_takeFirstSteps_34 rfl (lv_at hl 1 rfl) ?_
      refine lv_aload_nN hx hb xd_Me_takeFirstSteps_35 rfl (lv_at hl 0 rfl) ?_
      refine px_aastN (i := i) hx hb hK.1 hP hD hS ym1 hc1 6 rfl (by omega) (by omega) xd_Me_takeFirstSteps_36 (fun H locs hP hD hS => ?_)
      have hP : va_P D xcl (rp ad (up2 E1 (20 + n) (11 + 10 * k) (.inl (kA 6, rs, .inr (.inr (.inr (.inr (va_up fr1 i none))))))) RL) H := hP
      have hD : va_D A (rp ad (up2 E1 (20 + n) (11 + 10 * k) (.inl (kA 6, rs, .inr (.inr (.inr (.inr (va_up fr1 i none))))))) RL) := hD
      generalize hE49 : up2 E1 (20 + n) (11 + 10 * k) (.inl (kA 6, rs, .inr (.inr (.inr (.inr (va_up fr1 i none)))))) = E48 at hP hD
      have fE50 : ∀ b2 o2, ¬ (b2 = 20 + n ∧ o2 = 11 + 10 * k) → E48 b2 o2 = E1 b2 o2 := fun b2 o2 h9 => by rw [← hE49]; exact up2_ne (by omega)
      have c_51 : E48 (20 + n) (11 + 10 * k) = .inl (kA 6, rs, .inr (.inr (.inr (.inr (va_up fr1 i none))))) := by rw [← hE49]; exact up2_eq
      have c_52 : E48 (20 + n) (15 + 10 * k) = .inl (kA 0, 6, .inl ga1) := (fE50 (20 + n) (15 + 10 * k) (by omega)).trans hc5
      have c_53 : E48 (20 + n) (16 + 10 * k) = .inl (kA 0, 6, .inl gb1) := (fE50 (20 + n) (16 + 10 * k) (by omega)).trans hc6
      have c_54 : E48 (20 + n) (10 + 10 * k) = .inr (6, [.ref (ad (20 + n) 0), .ref (ad (1 + d) 0), .ref (ad (20 + n) (11 + 10 * k)), .ref (ad (20 + n) (12 + 10 * k)), .ref (ad (20 + n) (13 + 10 * k)), .ref (ad (20 + n) (14 + 10 * k))]) := (fE50 (20 + n) (10 + 10 * k) (by omega)).trans c_2
      have c_55 : E48 (20 + n) (12 + 10 * k) = .inr (10, [.ref (ad (20 + n) (15 + 10 * k))]) := (fE50 (20 + n) (12 + 10 * k) (by omega)).trans c_3
      have c_56 : E48 (20 + n) (13 + 10 * k) = .inr (10, [.ref (ad (20 + n) (16 + 10 * k))]) := (fE50 (20 + n) (13 + 10 * k) (by omega)).trans c_4
      have c_57 : E48 (1 + d) 0 = .inr (7, [.int (nI d), .int fd_6, .int nm_6, .ref (ad (1 + d) 1), .ref (ad (1 + d) 9), .ref (ad (1 + d) 10), .ref (ad (1 + d) 2), .ref (ad (1 + d) 11), .ref (ad (1 + d) 12), .ref (ad (1 + d) 3), .ref (ad (1 + d) 4), .int sd_6]) := (fE50 (1 + d) 0 (by omega)).trans c_7
      have c_58 : E48 (1 + d) 1 = .inr (8, [.ref (ad (1 + d) 5), .int (nI k0_6)]) := (fE50 (1 + d) 1 (by omega)).trans c_9
      have c_59 : E48 (1 + d) 2 = .inr (8, [.ref (ad (1 + d) 6), .int (nI k1_6)]) := (fE50 (1 + d) 2 (by omega)).trans c_11
      have c_60 : E48 (1 + d) 3 = .inr (8, [.ref (ad (1 + d) 7), .int (nI k2_6)]) := (fE50 (1 + d) 3 (by omega)).trans c_13
      have c_61 : E48 (1 + d) 4 = .inr (8, [.ref (ad (1 + d) 8), .int (nI k3_6)]) := (fE50 (1 + d) 4 (by omega)).trans c_15
      have c_62 : E48 (1 + d) 5 = .inl (kA 0, 6, .inl f0_6) := (fE50 (1 + d) 5 (by omega)).trans c_17
      have c_63 : E48 (1 + d) 6 = .inl (kA 0, 5, .inl f1_6) := (fE50 (1 + d) 6 (by omega)).trans c_19
      have c_64 : E48 (1 + d) 7 = .inl (kA 0, 3, .inl f2_6) := (fE50 (1 + d) 7 (by omega)).trans c_21
      have c_65 : E48 (1 + d) 8 = .inl (kA 0, 3, .inl f3_6) := (fE50 (1 + d) 8 (by omega)).trans c_23
      have c_66 : E48 (1 + d) 9 = .inl (kA 8, 6, .inr (.inr (.inr (.inr fe_6)))) := (fE50 (1 + d) 9 (by omega)).trans c_25
      have c_67 : E48 (1 + d) 10 = .inl (kA 8, 6, .inr (.inr (.inr (.inr fo_6)))) := (fE50 (1 + d) 10 (by omega)).trans c_27
      have c_68 : E48 (1 + d) 11 = .inl (kA 2, 5, .inl tr_6) := (fE50 (1 + d) 11 (by omega)).trans c_29
      have c_69 : E48 (1 + d) 12 = .inl (kA 2, 5, .inl op_6) := (fE50 (1 + d) 12 (by omega)).trans c_31
      have c_70 : E48 (20 + n) 0 = .inr (5, [.int (nI n), pv_36, .ref (ad (20 + n) 1), .int op_36]) := (fE50 (20 + n) 0 (by omega)).trans c_37
      have c_71 : E48 (20 + n) 1 = .inl (kA 6, mk_36, .inr (.inr (.inr (.inr fm_36)))) := (fE50 (20 + n) 1 (by omega)).trans c_39
      refine lv_aload_nN hx hb xd_Me_takeFirstSteps_37 rfl (lv_at hl 0 rfl) ?_
      refine lv_ifnullN (tgt := 61) hx hb xd_Me_takeFirstSteps_38 (by decide) ?_
      refine lv_aload_nN hx hb xd_Me_takeFirstSteps_61 rfl (lv_at hl 0 rfl) ?_
      refine lv_ifnullN (tgt := 107) hx hb xd_Me_takeFirstSteps_62 (by decide) ?_
      refine lv_iinc (k := 1) (x := (nI i)) (v := (nI (i + 1))) hx hb xd_Me_takeFirstSteps_107 hl rfl (xb_inc i 1) (Nat.le_of_ble_eq_true rfl) rfl (fun ls hl => ?_)
      have hl : lv_has ls 3 [(1, .int (nI (i + 1))), (2, .null), (0, .ref (ad (20 + n) (10 + 10 * k)))] := hl
      refine lv_goto (tgt := 2) hx hb xd_Me_takeFirstSteps_110 (by decide) ?_
      exact ih1 (i + 1, E48, (va_up fr1 i none), ga1, gb1) _ _ _ (show rs - (i + 1) < rs - i by omega) (lv_sub hl [0, 2] rfl) hP hD hS ⟨(show (i + 1) ≤ rs from by first | assumption | omega), (show E48 (20 + n) (11 + 10 * k) = .inl (kA 6, rs, .inr (.inr (.inr (.inr (va_up fr1 i none))))) from c_51), (show E48 (20 + n) (15 + 10 * k) = .inl (kA 0, 6, .inl ga1) from c_52), (show E48 (20 + n) (16 + 10 * k) = .inl (kA 0, 6, .inl gb1) from c_53), (show ∀ b2 o2, ¬ (b2 = 20 + n ∧ o2 = 11 + 10 * k) → ¬ (b2 = 20 + n ∧ o2 = 15 + 10 * k) → ¬ (b2 = 20 + n ∧ o2 = 16 + 10 * k) → E48 b2 o2 = E b2 o2 from fun b2 o2 h09 h19 h29 => by rw [fE50 b2 o2 (by omega), hfr b2 o2 (by omega) (by omega) (by omega)]), (show RQ kA ad E48 RL nd n (i + 1) (va_up fr1 i none) from RQ_RU (RU3 (b := 20 + n) (by omega) hc1 hc5 hc6 c_51 c_52 c_53 (fun b2 o2 h19 h29 h39 => by rw [fE50 b2 o2 (by omega)])) (RQ_addN hRQ))⟩
    · refine W.eq (g2 := F0 m 29 ls [.ref (ad (20 + z44) (10 + 10 * z45))]) rfl ?_
      refine lv_astore_n hx hb xd_Me_takeFirstSteps_29 rfl hl (Nat.le_of_ble_eq_true rfl) rfl (fun ls hl => ?_)
      have hl : lv_has ls 3 [(2, .ref (ad (20 + z44) (10 + 10 * z45))), (1, .int (nI i)), (0, .ref (ad (20 + n) (10 + 10 * k)))] := hl
      by_cases hxk : z44 = n ∧ z45 = k
      · obtain ⟨hxk1, hxk2⟩ := hxk
        rw [hxk1, hxk2] at hl
        have hl : lv_has ls 3 [(2, .ref (ad (20 + n) (10 + 10 * k))), (1, .int (nI i)), (0, .ref (ad (20 + n) (10 + 10 * k)))] := hl
        rw [hxk1, hxk2] at z47
        refine lv_aload_n hx hb xd_Me_takeFirstSteps_30 rfl (lv_at hl 2 rfl) ?_
        refine px_get (D := D) (ci := 6) (v := .ref (ad (20 + n) (11 + 10 * k))) (C := xR_Me) (T := xT_Me) (N := 6) hx hb hT xi_Me hown hK.1 hP ym0 c_2 rfl 2 (by decide) (hT _ ys3_0) (fun _ h9 => h9) rfl xd_Me_takeFirstSteps_31 ?_
        refine lv_iload_n hx hb xd_Me_takeFirstSteps_34 rfl (lv_at hl 1 rfl) ?_
        refine lv_aload_n hx hb xd_Me_takeFirstSteps_35 rfl (lv_at hl 0 rfl) ?_
        refine px_aast (i := i) (r := (xR_Me, xT_Me, 6)) hx hb hK.1 hP hD hS ym1 hc1 6 rfl ym0 c_2 rfl (by omega) (by omega) xd_Me_takeFirstSteps_36 (fun H locs hP hD hS => ?_)
        have hP : va_P D xcl (rp ad (up2 E1 (20 + n) (11 + 10 * k) (.inl (kA 6, rs, .inr (.inr (.inr (.inr (va_up fr1 i (some (ad (20 + n) (10 + 10 * k)))))))))) RL) H := hP
        have hD : va_D A (rp ad (up2 E1 (20 + n) (11 + 10 * k) (.inl (kA 6, rs, .inr (.inr (.inr (.inr (va_up fr1 i (some (ad (20 + n) (10 + 10 * k)))))))))) RL) := hD
        generalize hE73 : up2 E1 (20 + n) (11 + 10 * k) (.inl (kA 6, rs, .inr (.inr (.inr (.inr (va_up fr1 i (some (ad (20 + n) (10 + 10 * k))))))))) = E72 at hP hD
        have fE74 : ∀ b2 o2, ¬ (b2 = 20 + n ∧ o2 = 11 + 10 * k) → E72 b2 o2 = E1 b2 o2 := fun b2 o2 h9 => by rw [← hE73]; exact up2_ne (by omega)
        have c_75 : E72 (20 + n) (11 + 10 * k) = .inl (kA 6, rs, .inr (.inr (.inr (.inr (va_up fr1 i (some (ad (20 + n) (10 + 10 * k)))))))) := by rw [← hE73]; exact up2_eq
        have c_76 : E72 (20 + n) (15 + 10 * k) = .inl (kA 0, 6, .inl ga1) := (fE74 (20 + n) (15 + 10 * k) (by omega)).trans hc5
        have c_77 : E72 (20 + n) (16 + 10 * k) = .inl (kA 0, 6, .inl gb1) := (fE74 (20 + n) (16 + 10 * k) (by omega)).trans hc6
        have c_78 : E72 (20 + n) (10 + 10 * k) = .inr (6, [.ref (ad (20 + n) 0), .ref (ad (1 + d) 0), .ref (ad (20 + n) (11 + 10 * k)), .ref (ad (20 + n) (12 + 10 * k)), .ref (ad (20 + n) (13 + 10 * k)), .ref (ad (20 + n) (14 + 10 * k))]) := (fE74 (20 + n) (10 + 10 * k) (by omega)).trans c_2
        have c_79 : E72 (20 + n) (12 + 10 * k) = .inr (10, [.ref (ad (20 + n) (15 + 10 * k))]) := (fE74 (20 + n) (12 + 10 * k) (by omega)).trans c_3
        have c_80 : E72 (20 + n) (13 + 10 * k) = .inr (10, [.ref (ad (20 + n) (16 + 10 * k))]) := (fE74 (20 + n) (13 + 10 * k) (by omega)).trans c_4
        have c_81 : E72 (1 + d) 0 = .inr (7, [.int (nI d), .int fd_6, .int nm_6, .ref (ad (1 + d) 1), .ref (ad (1 + d) 9), .ref (ad (1 + d) 10), .ref (ad (1 + d) 2), .ref (ad (1 + d) 11), .ref (ad (1 + d) 12), .ref (ad (1 + d) 3), .ref (ad (1 + d) 4), .int sd_6]) := (fE74 (1 + d) 0 (by omega)).trans c_7
        have c_82 : E72 (1 + d) 1 = .inr (8, [.ref (ad (1 + d) 5), .int (nI k0_6)]) := (fE74 (1 + d) 1 (by omega)).trans c_9
        have c_83 : E72 (1 + d) 2 = .inr (8, [.ref (ad (1 + d) 6), .int (nI k1_6)]) := (fE74 (1 + d) 2 (by omega)).trans c_11
        have c_84 : E72 (1 + d) 3 = .inr (8, [.ref (ad (1 + d) 7), .int (nI k2_6)]) := (fE74 (1 + d) 3 (by omega)).trans c_13
        have c_85 : E72 (1 + d) 4 = .inr (8, [.ref (ad (1 + d) 8), .int (nI k3_6)]) := (fE74 (1 + d) 4 (by omega)).trans c_15
        have c_86 : E72 (1 + d) 5 = .inl (kA 0, 6, .inl f0_6) := (fE74 (1 + d) 5 (by omega)).trans c_17
        have c_87 : E72 (1 + d) 6 = .inl (kA 0, 5, .inl f1_6) := (fE74 (1 + d) 6 (by omega)).trans c_19
        have c_88 : E72 (1 + d) 7 = .inl (kA 0, 3, .inl f2_6) := (fE74 (1 + d) 7 (by omega)).trans c_21
        have c_89 : E72 (1 + d) 8 = .inl (kA 0, 3, .inl f3_6) := (fE74 (1 + d) 8 (by omega)).trans c_23
        have c_90 : E72 (1 + d) 9 = .inl (kA 8, 6, .inr (.inr (.inr (.inr fe_6)))) := (fE74 (1 + d) 9 (by omega)).trans c_25
        have c_91 : E72 (1 + d) 10 = .inl (kA 8, 6, .inr (.inr (.inr (.inr fo_6)))) := (fE74 (1 + d) 10 (by omega)).trans c_27
        have c_92 : E72 (1 + d) 11 = .inl (kA 2, 5, .inl tr_6) := (fE74 (1 + d) 11 (by omega)).trans c_29
        have c_93 : E72 (1 + d) 12 = .inl (kA 2, 5, .inl op_6) := (fE74 (1 + d) 12 (by omega)).trans c_31
        have c_94 : E72 (20 + n) 0 = .inr (5, [.int (nI n), pv_36, .ref (ad (20 + n) 1), .int op_36]) := (fE74 (20 + n) 0 (by omega)).trans c_37
        have c_95 : E72 (20 + n) 1 = .inl (kA 6, mk_36, .inr (.inr (.inr (.inr fm_36)))) := (fE74 (20 + n) 1 (by omega)).trans c_39
        refine lv_aload_n hx hb xd_Me_takeFirstSteps_37 rfl (lv_at hl 0 rfl) ?_
        refine lv_ifnull hx hb xd_Me_takeFirstSteps_38 ?_
        refine lv_aload_n hx hb xd_Me_takeFirstSteps_41 rfl (lv_at hl 2 rfl) ?_
        refine px_get (D := D) (ci := 6) (v := .ref (ad (1 + d) 0)) (C := xR_Me) (T := xT_Me) (N := 6) hx hb hT xi_Me hown hK.1 hP ym0 c_78 rfl 1 (by decide) (hT _ ys3_2) (fun _ h9 => h9) rfl xd_Me_takeFirstSteps_42 ?_
        refine px_get (D := D) (ci := 7) (v := .ref (ad (1 + d) 12)) (C := xR_Ds) (T := xT_Ds) (N := 12) hx hb hT xi_Ds hown hK.1 hP m_8 c_81 rfl 8 (by decide) (hT _ ys3_14) (fun _ h9 => h9) rfl xd_Me_takeFirstSteps_45 ?_
        refine lv_iload_n hx hb xd_Me_takeFirstSteps_48 rfl (lv_at hl 1 rfl) ?_
        refine px_zald (i := i) hx hb hK.1 hP m_32 c_93 2 rfl (by omega) (by decide) xd_Me_takeFirstSteps_49 ?_
        refine lv_if_ne (tgt := 61) hx hb xd_Me_takeFirstSteps_50 (by decide) (fun hc96 => ?_) (fun hc96 => ?_)
        · refine lv_aload_n hx hb xd_Me_takeFirstSteps_61 rfl (lv_at hl 0 rfl) ?_
          refine lv_ifnull hx hb xd_Me_takeFirstSteps_62 ?_
          refine lv_aload_n hx hb xd_Me_takeFirstSteps_65 rfl (lv_at hl 2 rfl) ?_
          refine px_get (D := D) (ci := 6) (v := .ref (ad (1 + d) 0)) (C := xR_Me) (T := xT_Me) (N := 6) hx hb hT xi_Me hown hK.1 hP ym0 c_78 rfl 1 (by decide) (hT _ ys3_2) (fun _ h9 => h9) rfl xd_Me_takeFirstSteps_66 ?_
          refine px_get (D := D) (ci := 7) (v := .ref (ad (1 + d) 11)) (C := xR_Ds) (T := xT_Ds) (N := 12) hx hb hT xi_Ds hown hK.1 hP m_8 c_81 rfl 7 (by decide) (hT _ ys3_15) (fun _ h9 => h9) rfl xd_Me_takeFirstSteps_69 ?_
          refine lv_iload_n hx hb xd_Me_takeFirstSteps_72 rfl (lv_at hl 1 rfl) ?_
          refine px_zald (i := i) hx hb hK.1 hP m_30 c_92 2 rfl (by omega) (by decide) xd_Me_takeFirstSteps_73 ?_
          refine lv_if_eq (tgt := 107) hx hb xd_Me_takeFirstSteps_74 (by decide) (fun hc97 => ?_) (fun hc97 => ?_)
          · refine lv_iinc (k := 1) (x := (nI i)) (v := (nI (i + 1))) hx hb xd_Me_takeFirstSteps_107 hl rfl (xb_inc i 1) (Nat.le_of_ble_eq_true rfl) rfl (fun ls hl => ?_)
            have hl : lv_has ls 3 [(1, .int (nI (i + 1))), (2, .ref (ad (20 + n) (10 + 10 * k))), (0, .ref (ad (20 + n) (10 + 10 * k)))] := hl
            refine lv_goto (tgt := 2) hx hb xd_Me_takeFirstSteps_110 (by decide) ?_
            exact ih1 (i + 1, E72, (va_up fr1 i (some (ad (20 + n) (10 + 10 * k)))), ga1, gb1) _ _ _ (show rs - (i + 1) < rs - i by omega) (lv_sub hl [0, 2] rfl) hP hD hS ⟨(show (i + 1) ≤ rs from by first | assumption | omega), (show E72 (20 + n) (11 + 10 * k) = .inl (kA 6, rs, .inr (.inr (.inr (.inr (va_up fr1 i (some (ad (20 + n) (10 + 10 * k)))))))) from c_75), (show E72 (20 + n) (15 + 10 * k) = .inl (kA 0, 6, .inl ga1) from c_76), (show E72 (20 + n) (16 + 10 * k) = .inl (kA 0, 6, .inl gb1) from c_77), (show ∀ b2 o2, ¬ (b2 = 20 + n ∧ o2 = 11 + 10 * k) → ¬ (b2 = 20 + n ∧ o2 = 15 + 10 * k) → ¬ (b2 = 20 + n ∧ o2 = 16 + 10 * k) → E72 b2 o2 = E b2 o2 from fun b2 o2 h09 h19 h29 => by rw [fE74 b2 o2 (by omega), hfr b2 o2 (by omega) (by omega) (by omega)]), (show RQ kA ad E72 RL nd n (i + 1) (va_up fr1 i (some (ad (20 + n) (10 + 10 * k)))) from RQ_RU (RU3 (b := 20 + n) (by omega) hc1 hc5 hc6 c_75 c_76 c_77 (fun b2 o2 h19 h29 h39 => by rw [fE74 b2 o2 (by omega)])) (RQ_add hRQ (Nat.le_refl _) z47))⟩
          · refine lv_aload_n hx hb xd_Me_takeFirstSteps_77 rfl (lv_at hl 2 rfl) ?_
            refine px_get (D := D) (ci := 6) (v := .ref (ad (20 + n) (13 + 10 * k))) (C := xR_Me) (T := xT_Me) (N := 6) hx hb hT xi_Me hown hK.1 hP ym0 c_78 rfl 4 (by decide) (hT _ ys3_16) (fun _ h9 => h9) rfl xd_Me_takeFirstSteps_78 ?_
            refine lv_aload_n hx hb xd_Me_takeFirstSteps_81 rfl (lv_at hl 0 rfl) ?_
            have hFc := px_free hD hS hA
            refine va_callv (va_runV (As := [.ref (ad (20 + n) (10 + 10 * k))]) (rest := []) ⟨hx, hb, hml, hown, hT⟩ (xc_Re_mark l D kA H.size ad E72 RL (20 + n) (13 + 10 * k) (16 + 10 * k) gb1 n k d pv_36 op_36 fd_6 nm_6 sd_6 ym3 c_80 ym5 c_77 ym0 c_78 m_38 c_94 m_8 c_81 (by first | assumption | omega) (by first | assumption | omega) (by first | assumption | omega)) (cwV 1 hT (wT_V ys3_18 ys3_19 ys3_20 ys3_21 ys3_17) rfl rfl rfl (by decide +kernel) ⟨Nat.le_of_ble_eq_true rfl, Nat.le_of_ble_eq_true rfl⟩) (px_preV hK hP hD ym3 c_80 rfl) rfl rfl hl.1 rfl (lv_room (Nat.le_of_ble_eq_true rfl)) xd_Me_takeFirstSteps_82 ⟨(Nat.le_of_ble_eq_true rfl), (Nat.le_of_ble_eq_true rfl)⟩) hS (fun q _ h => hFc q h) hFc (fun u99 t H1 locs ht hvm hp100 hB hz1 hk1 hS => ?_)
            obtain ⟨hP1, hD1⟩ := hB
            rw [ht] at hP1
            have hD1 := hD1.weaken (fun _ _ _ h => hFc _ h)
            generalize H1 = H at hP1 hS ⊢
            have hP := hP1
            have hD := hD1
            obtain ⟨E101, rfl⟩ : ∃ z, z = u99 := ⟨_, rfl⟩
            obtain ⟨w102, hp105, p_103, p_104⟩ := hp100
            have p_103 : E101 (20 + n) (16 + 10 * k) = .inl (kA 0, 6, .inl w102) := p_103
            have p_104 : (∀ b2 o2, ¬ (b2 = (20 + n) ∧ o2 = (16 + 10 * k)) → E101 b2 o2 = E72 b2 o2) := p_104
            have c_106 : E101 (20 + n) (11 + 10 * k) = .inl (kA 6, rs, .inr (.inr (.inr (.inr (va_up fr1 i (some (ad (20 + n) (10 + 10 * k)))))))) := (p_104 (20 + n) (11 + 10 * k) (by omega)).trans c_75
            have c_107 : E101 (20 + n) (15 + 10 * k) = .inl (kA 0, 6, .inl ga1) := (p_104 (20 + n) (15 + 10 * k) (by omega)).trans c_76
            have c_108 : E101 (20 + n) (10 + 10 * k) = .inr (6, [.ref (ad (20 + n) 0), .ref (ad (1 + d) 0), .ref (ad (20 + n) (11 + 10 * k)), .ref (ad (20 + n) (12 + 10 * k)), .ref (ad (20 + n) (13 + 10 * k)), .ref (ad (20 + n) (14 + 10 * k))]) := (p_104 (20 + n) (10 + 10 * k) (by omega)).trans c_78
            have c_109 : E101 (20 + n) (12 + 10 * k) = .inr (10, [.ref (ad (20 + n) (15 + 10 * k))]) := (p_104 (20 + n) (12 + 10 * k) (by omega)).trans c_79
            have c_110 : E101 (20 + n) (13 + 10 * k) = .inr (10, [.ref (ad (20 + n) (16 + 10 * k))]) := (p_104 (20 + n) (13 + 10 * k) (by omega)).trans c_80
            have c_111 : E101 (1 + d) 0 = .inr (7, [.int (nI d), .int fd_6, .int nm_6, .ref (ad (1 + d) 1), .ref (ad (1 + d) 9), .ref (ad (1 + d) 10), .ref (ad (1 + d) 2), .ref (ad (1 + d) 11), .ref (ad (1 + d) 12), .ref (ad (1 + d) 3), .ref (ad (1 + d) 4), .int sd_6]) := (p_104 (1 + d) 0 (by omega)).trans c_81
            have c_112 : E101 (1 + d) 1 = .inr (8, [.ref (ad (1 + d) 5), .int (nI k0_6)]) := (p_104 (1 + d) 1 (by omega)).trans c_82
            have c_113 : E101 (1 + d) 2 = .inr (8, [.ref (ad (1 + d) 6), .int (nI k1_6)]) := (p_104 (1 + d) 2 (by omega)).trans c_83
            have c_114 : E101 (1 + d) 3 = .inr (8, [.ref (ad (1 + d) 7), .int (nI k2_6)]) := (p_104 (1 + d) 3 (by omega)).trans c_84
            have c_115 : E101 (1 + d) 4 = .inr (8, [.ref (ad (1 + d) 8), .int (nI k3_6)]) := (p_104 (1 + d) 4 (by omega)).trans c_85
            have c_116 : E101 (1 + d) 5 = .inl (kA 0, 6, .inl f0_6) := (p_104 (1 + d) 5 (by omega)).trans c_86
            have c_117 : E101 (1 + d) 6 = .inl (kA 0, 5, .inl f1_6) := (p_104 (1 + d) 6 (by omega)).trans c_87
            have c_118 : E101 (1 + d) 7 = .inl (kA 0, 3, .inl f2_6) := (p_104 (1 + d) 7 (by omega)).trans c_88
            have c_119 : E101 (1 + d) 8 = .inl (kA 0, 3, .inl f3_6) := (p_104 (1 + d) 8 (by omega)).trans c_89
            have c_120 : E101 (1 + d) 9 = .inl (kA 8, 6, .inr (.inr (.inr (.inr fe_6)))) := (p_104 (1 + d) 9 (by omega)).trans c_90
            have c_121 : E101 (1 + d) 10 = .inl (kA 8, 6, .inr (.inr (.inr (.inr fo_6)))) := (p_104 (1 + d) 10 (by omega)).trans c_91
            have c_122 : E101 (1 + d) 11 = .inl (kA 2, 5, .inl tr_6) := (p_104 (1 + d) 11 (by omega)).trans c_92
            have c_123 : E101 (1 + d) 12 = .inl (kA 2, 5, .inl op_6) := (p_104 (1 + d) 12 (by omega)).trans c_93
            have c_124 : E101 (20 + n) 0 = .inr (5, [.int (nI n), pv_36, .ref (ad (20 + n) 1), .int op_36]) := (p_104 (20 + n) 0 (by omega)).trans c_94
            have c_125 : E101 (20 + n) 1 = .inl (kA 6, mk_36, .inr (.inr (.inr (.inr fm_36)))) := (p_104 (20 + n) 1 (by omega)).trans c_95
            have hP : va_P D xcl (rp ad E101 RL) H := hP
            have hD : va_D A (rp ad E101 RL) := hD
            refine lv_aload_n hx hb xd_Me_takeFirstSteps_85 rfl (lv_at hl 0 rfl) ?_
            refine px_get (D := D) (ci := 6) (v := .ref (ad (20 + n) 0)) (C := xR_Me) (T := xT_Me) (N := 6) hx hb hT xi_Me hown hK.1 hP ym0 c_108 rfl 0 (by decide) (hT _ ys3_1) (fun _ h9 => h9) rfl xd_Me_takeFirstSteps_86 ?_
            refine lv_aload_n hx hb xd_Me_takeFirstSteps_89 rfl (lv_at hl 2 rfl) ?_
            refine px_get (D := D) (ci := 6) (v := .ref (ad (20 + n) 0)) (C := xR_Me) (T := xT_Me) (N := 6) hx hb hT xi_Me hown hK.1 hP ym0 c_108 rfl 0 (by decide) (hT _ ys3_1) (fun _ h9 => h9) rfl xd_Me_takeFirstSteps_90 ?_
            refine lv_acmp_eq (rx := (some (ad (20 + n) 0))) (ry := (some (ad (20 + n) 0))) (tgt := 107) hx hb xd_Me_takeFirstSteps_93 (by decide) (fun _ => ?_) (fun hc126 => absurd rfl hc126)
            refine lv_iinc (k := 1) (x := (nI i)) (v := (nI (i + 1))) hx hb xd_Me_takeFirstSteps_107 hl rfl (xb_inc i 1) (Nat.le_of_ble_eq_true rfl) rfl (fun ls hl => ?_)
            have hl : lv_has ls 3 [(1, .int (nI (i + 1))), (2, .ref (ad (20 + n) (10 + 10 * k))), (0, .ref (ad (20 + n) (10 + 10 * k)))] := hl
            refine lv_goto (tgt := 2) hx hb xd_Me_takeFirstSteps_110 (by decide) ?_
            exact ih1 (i + 1, E101, (va_up fr1 i (some (ad (20 + n) (10 + 10 * k)))), ga1, w102) _ _ _ (show rs - (i + 1) < rs - i by omega) (lv_sub hl [0, 2] rfl) hP hD hS ⟨(show (i + 1) ≤ rs from by first | assumption | omega), (show E101 (20 + n) (11 + 10 * k) = .inl (kA 6, rs, .inr (.inr (.inr (.inr (va_up fr1 i (some (ad (20 + n) (10 + 10 * k)))))))) from c_106), (show E101 (20 + n) (15 + 10 * k) = .inl (kA 0, 6, .inl ga1) from c_107), (show E101 (20 + n) (16 + 10 * k) = .inl (kA 0, 6, .inl w102) from p_103), (show ∀ b2 o2, ¬ (b2 = 20 + n ∧ o2 = 11 + 10 * k) → ¬ (b2 = 20 + n ∧ o2 = 15 + 10 * k) → ¬ (b2 = 20 + n ∧ o2 = 16 + 10 * k) → E101 b2 o2 = E b2 o2 from fun b2 o2 h09 h19 h29 => by rw [p_104 b2 o2 (by omega), fE74 b2 o2 (by omega), hfr b2 o2 (by omega) (by omega) (by omega)]), (show RQ kA ad E101 RL nd n (i + 1) (va_up fr1 i (some (ad (20 + n) (10 + 10 * k)))) from RQ_RU (RU3 (b := 20 + n) (by omega) hc1 hc5 hc6 c_106 c_107 p_103 (fun b2 o2 h19 h29 h39 => by rw [p_104 b2 o2 (by omega), fE74 b2 o2 (by omega)])) (RQ_add hRQ (Nat.le_refl _) z47))⟩
        · refine lv_aload_n hx hb xd_Me_takeFirstSteps_53 rfl (lv_at hl 2 rfl) ?_
          refine px_get (D := D) (ci := 6) (v := .ref (ad (20 + n) (12 + 10 * k))) (C := xR_Me) (T := xT_Me) (N := 6) hx hb hT xi_Me hown hK.1 hP ym0 c_78 rfl 3 (by decide) (hT _ ys3_22) (fun _ h9 => h9) rfl xd_Me_takeFirstSteps_54 ?_
          refine lv_aload_n hx hb xd_Me_takeFirstSteps_57 rfl (lv_at hl 0 rfl) ?_
          have hFc := px_free hD hS hA
          refine va_callv (va_runV (As := [.ref (ad (20 + n) (10 + 10 * k))]) (rest := []) ⟨hx, hb, hml, hown, hT⟩ (xc_Re_mark l D kA H.size ad E72 RL (20 + n) (12 + 10 * k) (15 + 10 * k) ga1 n k d pv_36 op_36 fd_6 nm_6 sd_6 ym2 c_79 ym4 c_76 ym0 c_78 m_38 c_94 m_8 c_81 (by first | assumption | omega) (by first | assumption | omega) (by first | assumption | omega)) (cwV 1 hT (wT_V ys3_18 ys3_19 ys3_20 ys3_21 ys3_17) rfl rfl rfl (by decide +kernel) ⟨Nat.le_of_ble_eq_true rfl, Nat.le_of_ble_eq_true rfl⟩) (px_preV hK hP hD ym2 c_79 rfl) rfl rfl hl.1 rfl (lv_room (Nat.le_of_ble_eq_true rfl)) xd_Me_takeFirstSteps_58 ⟨(Nat.le_of_ble_eq_true rfl), (Nat.le_of_ble_eq_true rfl)⟩) hS (fun q _ h => hFc q h) hFc (fun u128 t H1 locs ht hvm hp129 hB hz1 hk1 hS => ?_)
          obtain ⟨hP1, hD1⟩ := hB
          rw [ht] at hP1
          have hD1 := hD1.weaken (fun _ _ _ h => hFc _ h)
          generalize H1 = H at hP1 hS ⊢
          have hP := hP1
          have hD := hD1
          obtain ⟨E130, rfl⟩ : ∃ z, z = u128 := ⟨_, rfl⟩
          obtain ⟨w131, hp134, p_132, p_133⟩ := hp129
          have p_132 : E130 (20 + n) (15 + 10 * k) = .inl (kA 0, 6, .inl w131) := p_132
          have p_133 : (∀ b2 o2, ¬ (b2 = (20 + n) ∧ o2 = (15 + 10 * k)) → E130 b2 o2 = E72 b2 o2) := p_133
          have c_135 : E130 (20 + n) (11 + 10 * k) = .inl (kA 6, rs, .inr (.inr (.inr (.inr (va_up fr1 i (some (ad (20 + n) (10 + 10 * k)))))))) := (p_133 (20 + n) (11 + 10 * k) (by omega)).trans c_75
          have c_136 : E130 (20 + n) (16 + 10 * k) = .inl (kA 0, 6, .inl gb1) := (p_133 (20 + n) (16 + 10 * k) (by omega)).trans c_77
          have c_137 : E130 (20 + n) (10 + 10 * k) = .inr (6, [.ref (ad (20 + n) 0), .ref (ad (1 + d) 0), .ref (ad (20 + n) (11 + 10 * k)), .ref (ad (20 + n) (12 + 10 * k)), .ref (ad (20 + n) (13 + 10 * k)), .ref (ad (20 + n) (14 + 10 * k))]) := (p_133 (20 + n) (10 + 10 * k) (by omega)).trans c_78
          have c_138 : E130 (20 + n) (12 + 10 * k) = .inr (10, [.ref (ad (20 + n) (15 + 10 * k))]) := (p_133 (20 + n) (12 + 10 * k) (by omega)).trans c_79
          have c_139 : E130 (20 + n) (13 + 10 * k) = .inr (10, [.ref (ad (20 + n) (16 + 10 * k))]) := (p_133 (20 + n) (13 + 10 * k) (by omega)).trans c_80
          have c_140 : E130 (1 + d) 0 = .inr (7, [.int (nI d), .int fd_6, .int nm_6, .ref (ad (1 + d) 1), .ref (ad (1 + d) 9), .ref (ad (1 + d) 10), .ref (ad (1 + d) 2), .ref (ad (1 + d) 11), .ref (ad (1 + d) 12), .ref (ad (1 + d) 3), .ref (ad (1 + d) 4), .int sd_6]) := (p_133 (1 + d) 0 (by omega)).trans c_81
          have c_141 : E130 (1 + d) 1 = .inr (8, [.ref (ad (1 + d) 5), .int (nI k0_6)]) := (p_133 (1 + d) 1 (by omega)).trans c_82
          have c_142 : E130 (1 + d) 2 = .inr (8, [.ref (ad (1 + d) 6), .int (nI k1_6)]) := (p_133 (1 + d) 2 (by omega)).trans c_83
          have c_143 : E130 (1 + d) 3 = .inr (8, [.ref (ad (1 + d) 7), .int (nI k2_6)]) := (p_133 (1 + d) 3 (by omega)).trans c_84
          have c_144 : E130 (1 + d) 4 = .inr (8, [.ref (ad (1 + d) 8), .int (nI k3_6)]) := (p_133 (1 + d) 4 (by omega)).trans c_85
          have c_145 : E130 (1 + d) 5 = .inl (kA 0, 6, .inl f0_6) := (p_133 (1 + d) 5 (by omega)).trans c_86
          have c_146 : E130 (1 + d) 6 = .inl (kA 0, 5, .inl f1_6) := (p_133 (1 + d) 6 (by omega)).trans c_87
          have c_147 : E130 (1 + d) 7 = .inl (kA 0, 3, .inl f2_6) := (p_133 (1 + d) 7 (by omega)).trans c_88
          have c_148 : E130 (1 + d) 8 = .inl (kA 0, 3, .inl f3_6) := (p_133 (1 + d) 8 (by omega)).trans c_89
          have c_149 : E130 (1 + d) 9 = .inl (kA 8, 6, .inr (.inr (.inr (.inr fe_6)))) := (p_133 (1 + d) 9 (by omega)).trans c_90
          have c_150 : E130 (1 + d) 10 = .inl (kA 8, 6, .inr (.inr (.inr (.inr fo_6)))) := (p_133 (1 + d) 10 (by omega)).trans c_91
          have c_151 : E130 (1 + d) 11 = .inl (kA 2, 5, .inl tr_6) := (p_133 (1 + d) 11 (by omega)).trans c_92
          have c_152 : E130 (1 + d) 12 = .inl (kA 2, 5, .inl op_6) := (p_133 (1 + d) 12 (by omega)).trans c_93
          have c_153 : E130 (20 + n) 0 = .inr (5, [.int (nI n), pv_36, .ref (ad (20 + n) 1), .int op_36]) := (p_133 (20 + n) 0 (by omega)).trans c_94
          have c_154 : E130 (20 + n) 1 = .inl (kA 6, mk_36, .inr (.inr (.inr (.inr fm_36)))) := (p_133 (20 + n) 1 (by omega)).trans c_95
          have hP : va_P D xcl (rp ad E130 RL) H := hP
          have hD : va_D A (rp ad E130 RL) := hD
          refine lv_aload_n hx hb xd_Me_takeFirstSteps_61 rfl (lv_at hl 0 rfl) ?_
          refine lv_ifnull hx hb xd_Me_takeFirstSteps_62 ?_
          refine lv_aload_n hx hb xd_Me_takeFirstSteps_65 rfl (lv_at hl 2 rfl) ?_
          refine px_get (D := D) (ci := 6) (v := .ref (ad (1 + d) 0)) (C := xR_Me) (T := xT_Me) (N := 6) hx hb hT xi_Me hown hK.1 hP ym0 c_137 rfl 1 (by decide) (hT _ ys3_2) (fun _ h9 => h9) rfl xd_Me_takeFirstSteps_66 ?_
          refine px_get (D := D) (ci := 7) (v := .ref (ad (1 + d) 11)) (C := xR_Ds) (T := xT_Ds) (N := 12) hx hb hT xi_Ds hown hK.1 hP m_8 c_140 rfl 7 (by decide) (hT _ ys3_15) (fun _ h9 => h9) rfl xd_Me_takeFirstSteps_69 ?_
          refine lv_iload_n hx hb xd_Me_takeFirstSteps_72 rfl (lv_at hl 1 rfl) ?_
          refine px_zald (i := i) hx hb hK.1 hP m_30 c_151 2 rfl (by omega) (by decide) xd_Me_takeFirstSteps_73 ?_
          refine lv_if_eq (tgt := 107) hx hb xd_Me_takeFirstSteps_74 (by decide) (fun hc155 => ?_) (fun hc155 => ?_)
          · refine lv_iinc (k := 1) (x := (nI i)) (v := (nI (i + 1))) hx hb xd_Me_takeFirstSteps_107 hl rfl (xb_inc i 1) (Nat.le_of_ble_eq_true rfl) rfl (fun ls hl => ?_)
            have hl : lv_has ls 3 [(1, .int (nI (i + 1))), (2, .ref (ad (20 + n) (10 + 10 * k))), (0, .ref (ad (20 + n) (10 + 10 * k)))] := hl
            refine lv_goto (tgt := 2) hx hb xd_Me_takeFirstSteps_110 (by decide) ?_
            exact ih1 (i + 1, E130, (va_up fr1 i (some (ad (20 + n) (10 + 10 * k)))), w131, gb1) _ _ _ (show rs - (i + 1) < rs - i by omega) (lv_sub hl [0, 2] rfl) hP hD hS ⟨(show (i + 1) ≤ rs from by first | assumption | omega), (show E130 (20 + n) (11 + 10 * k) = .inl (kA 6, rs, .inr (.inr (.inr (.inr (va_up fr1 i (some (ad (20 + n) (10 + 10 * k)))))))) from c_135), (show E130 (20 + n) (15 + 10 * k) = .inl (kA 0, 6, .inl w131) from p_132), (show E130 (20 + n) (16 + 10 * k) = .inl (kA 0, 6, .inl gb1) from c_136), (show ∀ b2 o2, ¬ (b2 = 20 + n ∧ o2 = 11 + 10 * k) → ¬ (b2 = 20 + n ∧ o2 = 15 + 10 * k) → ¬ (b2 = 20 + n ∧ o2 = 16 + 10 * k) → E130 b2 o2 = E b2 o2 from fun b2 o2 h09 h19 h29 => by rw [p_133 b2 o2 (by omega), fE74 b2 o2 (by omega), hfr b2 o2 (by omega) (by omega) (by omega)]), (show RQ kA ad E130 RL nd n (i + 1) (va_up fr1 i (some (ad (20 + n) (10 + 10 * k)))) from RQ_RU (RU3 (b := 20 + n) (by omega) hc1 hc5 hc6 c_135 p_132 c_136 (fun b2 o2 h19 h29 h39 => by rw [p_133 b2 o2 (by omega), fE74 b2 o2 (by omega)])) (RQ_add hRQ (Nat.le_refl _) z47))⟩
          · refine lv_aload_n hx hb xd_Me_takeFirstSteps_77 rfl (lv_at hl 2 rfl) ?_
            refine px_get (D := D) (ci := 6) (v := .ref (ad (20 + n) (13 + 10 * k))) (C := xR_Me) (T := xT_Me) (N := 6) hx hb hT xi_Me hown hK.1 hP ym0 c_137 rfl 4 (by decide) (hT _ ys3_16) (fun _ h9 => h9) rfl xd_Me_takeFirstSteps_78 ?_
            refine lv_aload_n hx hb xd_Me_takeFirstSteps_81 rfl (lv_at hl 0 rfl) ?_
            have hFc := px_free hD hS hA
            refine va_callv (va_runV (As := [.ref (ad (20 + n) (10 + 10 * k))]) (rest := []) ⟨hx, hb, hml, hown, hT⟩ (xc_Re_mark l D kA H.size ad E130 RL (20 + n) (13 + 10 * k) (16 + 10 * k) gb1 n k d pv_36 op_36 fd_6 nm_6 sd_6 ym3 c_139 ym5 c_136 ym0 c_137 m_38 c_153 m_8 c_140 (by first | assumption | omega) (by first | assumption | omega) (by first | assumption | omega)) (cwV 1 hT (wT_V ys3_18 ys3_19 ys3_20 ys3_21 ys3_17) rfl rfl rfl (by decide +kernel) ⟨Nat.le_of_ble_eq_true rfl, Nat.le_of_ble_eq_true rfl⟩) (px_preV hK hP hD ym3 c_139 rfl) rfl rfl hl.1 rfl (lv_room (Nat.le_of_ble_eq_true rfl)) xd_Me_takeFirstSteps_82 ⟨(Nat.le_of_ble_eq_true rfl), (Nat.le_of_ble_eq_true rfl)⟩) hS (fun q _ h => hFc q h) hFc (fun u157 t H1 locs ht hvm hp158 hB hz1 hk1 hS => ?_)
            obtain ⟨hP1, hD1⟩ := hB
            rw [ht] at hP1
            have hD1 := hD1.weaken (fun _ _ _ h => hFc _ h)
            generalize H1 = H at hP1 hS ⊢
            have hP := hP1
            have hD := hD1
            obtain ⟨E159, rfl⟩ : ∃ z, z = u157 := ⟨_, rfl⟩
            obtain ⟨w160, hp163, p_161, p_162⟩ := hp158
            have p_161 : E159 (20 + n) (16 + 10 * k) = .inl (kA 0, 6, .inl w160) := p_161
            have p_162 : (∀ b2 o2, ¬ (b2 = (20 + n) ∧ o2 = (16 + 10 * k)) → E159 b2 o2 = E130 b2 o2) := p_162
            have c_164 : E159 (20 + n) (15 + 10 * k) = .inl (kA 0, 6, .inl w131) := (p_162 (20 + n) (15 + 10 * k) (by omega)).trans p_132
            have c_165 : E159 (20 + n) (11 + 10 * k) = .inl (kA 6, rs, .inr (.inr (.inr (.inr (va_up fr1 i (some (ad (20 + n) (10 + 10 * k)))))))) := (p_162 (20 + n) (11 + 10 * k) (by omega)).trans c_135
            have c_166 : E159 (20 + n) (10 + 10 * k) = .inr (6, [.ref (ad (20 + n) 0), .ref (ad (1 + d) 0), .ref (ad (20 + n) (11 + 10 * k)), .ref (ad (20 + n) (12 + 10 * k)), .ref (ad (20 + n) (13 + 10 * k)), .ref (ad (20 + n) (14 + 10 * k))]) := (p_162 (20 + n) (10 + 10 * k) (by omega)).trans c_137
            have c_167 : E159 (20 + n) (12 + 10 * k) = .inr (10, [.ref (ad (20 + n) (15 + 10 * k))]) := (p_162 (20 + n) (12 + 10 * k) (by omega)).trans c_138
            have c_168 : E159 (20 + n) (13 + 10 * k) = .inr (10, [.ref (ad (20 + n) (16 + 10 * k))]) := (p_162 (20 + n) (13 + 10 * k) (by omega)).trans c_139
            have c_169 : E159 (1 + d) 0 = .inr (7, [.int (nI d), .int fd_6, .int nm_6, .ref (ad (1 + d) 1), .ref (ad (1 + d) 9), .ref (ad (1 + d) 10), .ref (ad (1 + d) 2), .ref (ad (1 + d) 11), .ref (ad (1 + d) 12), .ref (ad (1 + d) 3), .ref (ad (1 + d) 4), .int sd_6]) := (p_162 (1 + d) 0 (by omega)).trans c_140
            have c_170 : E159 (1 + d) 1 = .inr (8, [.ref (ad (1 + d) 5), .int (nI k0_6)]) := (p_162 (1 + d) 1 (by omega)).trans c_141
            have c_171 : E159 (1 + d) 2 = .inr (8, [.ref (ad (1 + d) 6), .int (nI k1_6)]) := (p_162 (1 + d) 2 (by omega)).trans c_142
            have c_172 : E159 (1 + d) 3 = .inr (8, [.ref (ad (1 + d) 7), .int (nI k2_6)]) := (p_162 (1 + d) 3 (by omega)).trans c_143
            have c_173 : E159 (1 + d) 4 = .inr (8, [.ref (ad (1 + d) 8), .int (nI k3_6)]) := (p_162 (1 + d) 4 (by omega)).trans c_144
            have c_174 : E159 (1 + d) 5 = .inl (kA 0, 6, .inl f0_6) := (p_162 (1 + d) 5 (by omega)).trans c_145
            have c_175 : E159 (1 + d) 6 = .inl (kA 0, 5, .inl f1_6) := (p_162 (1 + d) 6 (by omega)).trans c_146
            have c_176 : E159 (1 + d) 7 = .inl (kA 0, 3, .inl f2_6) := (p_162 (1 + d) 7 (by omega)).trans c_147
            have c_177 : E159 (1 + d) 8 = .inl (kA 0, 3, .inl f3_6) := (p_162 (1 + d) 8 (by omega)).trans c_148
            have c_178 : E159 (1 + d) 9 = .inl (kA 8, 6, .inr (.inr (.inr (.inr fe_6)))) := (p_162 (1 + d) 9 (by omega)).trans c_149
            have c_179 : E159 (1 + d) 10 = .inl (kA 8, 6, .inr (.inr (.inr (.inr fo_6)))) := (p_162 (1 + d) 10 (by omega)).trans c_150
            have c_180 : E159 (1 + d) 11 = .inl (kA 2, 5, .inl tr_6) := (p_162 (1 + d) 11 (by omega)).trans c_151
            have c_181 : E159 (1 + d) 12 = .inl (kA 2, 5, .inl op_6) := (p_162 (1 + d) 12 (by omega)).trans c_152
            have c_182 : E159 (20 + n) 0 = .inr (5, [.int (nI n), pv_36, .ref (ad (20 + n) 1), .int op_36]) := (p_162 (20 + n) 0 (by omega)).trans c_153
            have c_183 : E159 (20 + n) 1 = .inl (kA 6, mk_36, .inr (.inr (.inr (.inr fm_36)))) := (p_162 (20 + n) 1 (by omega)).trans c_154
            have hP : va_P D xcl (rp ad E159 RL) H := hP
            have hD : va_D A (rp ad E159 RL) := hD
            refine lv_aload_n hx hb xd_Me_takeFirstSteps_85 rfl (lv_at hl 0 rfl) ?_
            refine px_get (D := D) (ci := 6) (v := .ref (ad (20 + n) 0)) (C := xR_Me) (T := xT_Me) (N := 6) hx hb hT xi_Me hown hK.1 hP ym0 c_166 rfl 0 (by decide) (hT _ ys3_1) (fun _ h9 => h9) rfl xd_Me_takeFirstSteps_86 ?_
            refine lv_aload_n hx hb xd_Me_takeFirstSteps_89 rfl (lv_at hl 2 rfl) ?_
            refine px_get (D := D) (ci := 6) (v := .ref (ad (20 + n) 0)) (C := xR_Me) (T := xT_Me) (N := 6) hx hb hT xi_Me hown hK.1 hP ym0 c_166 rfl 0 (by decide) (hT _ ys3_1) (fun _ h9 => h9) rfl xd_Me_takeFirstSteps_90 ?_
            refine lv_acmp_eq (rx := (some (ad (20 + n) 0))) (ry := (some (ad (20 + n) 0))) (tgt := 107) hx hb xd_Me_takeFirstSteps_93 (by decide) (fun _ => ?_) (fun hc184 => absurd rfl hc184)
            refine lv_iinc (k := 1) (x := (nI i)) (v := (nI (i + 1))) hx hb xd_Me_takeFirstSteps_107 hl rfl (xb_inc i 1) (Nat.le_of_ble_eq_true rfl) rfl (fun ls hl => ?_)
            have hl : lv_has ls 3 [(1, .int (nI (i + 1))), (2, .ref (ad (20 + n) (10 + 10 * k))), (0, .ref (ad (20 + n) (10 + 10 * k)))] := hl
            refine lv_goto (tgt := 2) hx hb xd_Me_takeFirstSteps_110 (by decide) ?_
            exact ih1 (i + 1, E159, (va_up fr1 i (some (ad (20 + n) (10 + 10 * k)))), w131, w160) _ _ _ (show rs - (i + 1) < rs - i by omega) (lv_sub hl [0, 2] rfl) hP hD hS ⟨(show (i + 1) ≤ rs from by first | assumption | omega), (show E159 (20 + n) (11 + 10 * k) = .inl (kA 6, rs, .inr (.inr (.inr (.inr (va_up fr1 i (some (ad (20 + n) (10 + 10 * k)))))))) from c_165), (show E159 (20 + n) (15 + 10 * k) = .inl (kA 0, 6, .inl w131) from c_164), (show E159 (20 + n) (16 + 10 * k) = .inl (kA 0, 6, .inl w160) from p_161), (show ∀ b2 o2, ¬ (b2 = 20 + n ∧ o2 = 11 + 10 * k) → ¬ (b2 = 20 + n ∧ o2 = 15 + 10 * k) → ¬ (b2 = 20 + n ∧ o2 = 16 + 10 * k) → E159 b2 o2 = E b2 o2 from fun b2 o2 h09 h19 h29 => by rw [p_162 b2 o2 (by omega), p_133 b2 o2 (by omega), fE74 b2 o2 (by omega), hfr b2 o2 (by omega) (by omega) (by omega)]), (show RQ kA ad E159 RL nd n (i + 1) (va_up fr1 i (some (ad (20 + n) (10 + 10 * k)))) from RQ_RU (RU3 (b := 20 + n) (by omega) hc1 hc5 hc6 c_165 c_164 p_161 (fun b2 o2 h19 h29 h39 => by rw [p_162 b2 o2 (by omega), p_133 b2 o2 (by omega), fE74 b2 o2 (by omega)])) (RQ_add hRQ (Nat.le_refl _) z47))⟩
      · obtain ⟨hm_185, d_185, rs_185, fr_185, g2_185, g3_185, g4_185, hd_185, hrs_185, q0_185, q1_185, q2_185, q3_185, q4_185, q5_185, q6_185, q7_185⟩ := id z47
        have c_186 : E1 (20 + z44) (10 + 10 * z45) = .inr (6, [.ref (ad (20 + z44) 0), .ref (ad (1 + d_185) 0), .ref (ad (20 + z44) (11 + 10 * z45)), .ref (ad (20 + z44) (12 + 10 * z45)), .ref (ad (20 + z44) (13 + 10 * z45)), .ref (ad (20 + z44) (14 + 10 * z45))]) := q0_185
        have m_187 : (20 + z44, 10 + 10 * z45) ∈ RL := hm_185 0 (by omega)
        have c_188 : E1 (20 + z44) (11 + 10 * z45) = .inl (kA 6, rs_185, .inr (.inr (.inr (.inr fr_185)))) := q1_185
        have m_189 : (20 + z44, 11 + 10 * z45) ∈ RL := hm_185 1 (by omega)
        have c_190 : E1 (20 + z44) (12 + 10 * z45) = .inr (10, [.ref (ad (20 + z44) (15 + 10 * z45))]) := q2_185
        have m_191 : (20 + z44, 12 + 10 * z45) ∈ RL := hm_185 2 (by omega)
        have c_192 : E1 (20 + z44) (13 + 10 * z45) = .inr (10, [.ref (ad (20 + z44) (16 + 10 * z45))]) := q3_185
        have m_193 : (20 + z44, 13 + 10 * z45) ∈ RL := hm_185 3 (by omega)
        have c_194 : E1 (20 + z44) (14 + 10 * z45) = .inr (10, [.ref (ad (20 + z44) (17 + 10 * z45))]) := q4_185
        have m_195 : (20 + z44, 14 + 10 * z45) ∈ RL := hm_185 4 (by omega)
        have c_196 : E1 (20 + z44) (15 + 10 * z45) = .inl (kA 0, 6, .inl g2_185) := q5_185
        have m_197 : (20 + z44, 15 + 10 * z45) ∈ RL := hm_185 5 (by omega)
        have c_198 : E1 (20 + z44) (16 + 10 * z45) = .inl (kA 0, 6, .inl g3_185) := q6_185
        have m_199 : (20 + z44, 16 + 10 * z45) ∈ RL := hm_185 6 (by omega)
        have c_200 : E1 (20 + z44) (17 + 10 * z45) = .inl (kA 0, 6, .inl g4_185) := q7_185
        have m_201 : (20 + z44, 17 + 10 * z45) ∈ RL := hm_185 7 (by omega)
        obtain ⟨m0_202, m1_202, pv_202, op_202, mk_202, fm_202, hmk_202, hpv_202, q0_202, q1_202, hk_202⟩ := id (hLIs z44 (by omega))
        have c_203 : E1 (20 + z44) 0 = .inr (5, [.int (nI z44), pv_202, .ref (ad (20 + z44) 1), .int op_202]) := q0_202
        have m_204 : (20 + z44, 0) ∈ RL := m0_202
        have c_205 : E1 (20 + z44) 1 = .inl (kA 6, mk_202, .inr (.inr (.inr (.inr fm_202)))) := q1_202
        have m_206 : (20 + z44, 1) ∈ RL := m1_202
        obtain ⟨hm_207, fd_207, nm_207, sd_207, k0_207, k1_207, k2_207, k3_207, f0_207, f1_207, f2_207, f3_207, fe_207, fo_207, tr_207, op_207, hk0_207, hk1_207, hk2_207, hk3_207, q0_207, q1_207, q2_207, q3_207, q4_207, q5_207, q6_207, q7_207, q8_207, q9_207, q10_207, q11_207, q12_207, hg_207⟩ := id (hDIs d_185 (by omega))
        have c_208 : E1 (1 + d_185) 0 = .inr (7, [.int (nI d_185), .int fd_207, .int nm_207, .ref (ad (1 + d_185) 1), .ref (ad (1 + d_185) 9), .ref (ad (1 + d_185) 10), .ref (ad (1 + d_185) 2), .ref (ad (1 + d_185) 11), .ref (ad (1 + d_185) 12), .ref (ad (1 + d_185) 3), .ref (ad (1 + d_185) 4), .int sd_207]) := q0_207
        have m_209 : (1 + d_185, 0) ∈ RL := hm_207 0 (by omega)
        have c_210 : E1 (1 + d_185) 1 = .inr (8, [.ref (ad (1 + d_185) 5), .int (nI k0_207)]) := q1_207
        have m_211 : (1 + d_185, 1) ∈ RL := hm_207 1 (by omega)
        have c_212 : E1 (1 + d_185) 2 = .inr (8, [.ref (ad (1 + d_185) 6), .int (nI k1_207)]) := q2_207
        have m_213 : (1 + d_185, 2) ∈ RL := hm_207 2 (by omega)
        have c_214 : E1 (1 + d_185) 3 = .inr (8, [.ref (ad (1 + d_185) 7), .int (nI k2_207)]) := q3_207
        have m_215 : (1 + d_185, 3) ∈ RL := hm_207 3 (by omega)
        have c_216 : E1 (1 + d_185) 4 = .inr (8, [.ref (ad (1 + d_185) 8), .int (nI k3_207)]) := q4_207
        have m_217 : (1 + d_185, 4) ∈ RL := hm_207 4 (by omega)
        have c_218 : E1 (1 + d_185) 5 = .inl (kA 0, 6, .inl f0_207) := q5_207
        have m_219 : (1 + d_185, 5) ∈ RL := hm_207 5 (by omega)
        have c_220 : E1 (1 + d_185) 6 = .inl (kA 0, 5, .inl f1_207) := q6_207
        have m_221 : (1 + d_185, 6) ∈ RL := hm_207 6 (by omega)
        have c_222 : E1 (1 + d_185) 7 = .inl (kA 0, 3, .inl f2_207) := q7_207
        have m_223 : (1 + d_185, 7) ∈ RL := hm_207 7 (by omega)
        have c_224 : E1 (1 + d_185) 8 = .inl (kA 0, 3, .inl f3_207) := q8_207
        have m_225 : (1 + d_185, 8) ∈ RL := hm_207 8 (by omega)
        have c_226 : E1 (1 + d_185) 9 = .inl (kA 8, 6, .inr (.inr (.inr (.inr fe_207)))) := q9_207
        have m_227 : (1 + d_185, 9) ∈ RL := hm_207 9 (by omega)
        have c_228 : E1 (1 + d_185) 10 = .inl (kA 8, 6, .inr (.inr (.inr (.inr fo_207)))) := q10_207
        have m_229 : (1 + d_185, 10) ∈ RL := hm_207 10 (by omega)
        have c_230 : E1 (1 + d_185) 11 = .inl (kA 2, 5, .inl tr_207) := q11_207
        have m_231 : (1 + d_185, 11) ∈ RL := hm_207 11 (by omega)
        have c_232 : E1 (1 + d_185) 12 = .inl (kA 2, 5, .inl op_207) := q12_207
        have m_233 : (1 + d_185, 12) ∈ RL := hm_207 12 (by omega)
        have hg_207 : ∀ w9, w9 < k0_207 → fe_207 w9 = some (ad (1 + d_185) (20 + 3 * w9)) ∧ fo_207 w9 = some (ad (1 + d_185) (38 + 3 * w9)) ∧ GI kA (ad (1 + d_185)) (E1 (1 + d_185)) (fun o => (1 + d_185, o) ∈ RL) (20 + 3 * w9) (21 + 3 * w9) (22 + 3 * w9) ∧ GI kA (ad (1 + d_185)) (E1 (1 + d_185)) (fun o => (1 + d_185, o) ∈ RL) (38 + 3 * w9) (39 + 3 * w9) (40 + 3 * w9) := hg_207
        refine lv_aload_n hx hb xd_Me_takeFirstSteps_30 rfl (lv_at hl 2 rfl) ?_
        refine px_get (D := D) (ci := 6) (v := .ref (ad (20 + n) (11 + 10 * k))) (C := xR_Me) (T := xT_Me) (N := 6) hx hb hT xi_Me hown hK.1 hP ym0 c_2 rfl 2 (by decide) (hT _ ys3_0) (fun _ h9 => h9) rfl xd_Me_takeFirstSteps_31 ?_
        refine lv_iload_n hx hb xd_Me_takeFirstSteps_34 rfl (lv_at hl 1 rfl) ?_
        refine lv_aload_n hx hb xd_Me_takeFirstSteps_35 rfl (lv_at hl 0 rfl) ?_
        refine px_aast (i := i) (r := (xR_Me, xT_Me, 6)) hx hb hK.1 hP hD hS ym1 hc1 6 rfl m_187 c_186 rfl (by omega) (by omega) xd_Me_takeFirstSteps_36 (fun H locs hP hD hS => ?_)
        have hP : va_P D xcl (rp ad (up2 E1 (20 + n) (11 + 10 * k) (.inl (kA 6, rs, .inr (.inr (.inr (.inr (va_up fr1 i (some (ad (20 + z44) (10 + 10 * z45)))))))))) RL) H := hP
        have hD : va_D A (rp ad (up2 E1 (20 + n) (11 + 10 * k) (.inl (kA 6, rs, .inr (.inr (.inr (.inr (va_up fr1 i (some (ad (20 + z44) (10 + 10 * z45)))))))))) RL) := hD
        generalize hE235 : up2 E1 (20 + n) (11 + 10 * k) (.inl (kA 6, rs, .inr (.inr (.inr (.inr (va_up fr1 i (some (ad (20 + z44) (10 + 10 * z45))))))))) = E234 at hP hD
        have fE236 : ∀ b2 o2, ¬ (b2 = 20 + n ∧ o2 = 11 + 10 * k) → E234 b2 o2 = E1 b2 o2 := fun b2 o2 h9 => by rw [← hE235]; exact up2_ne (by omega)
        have c_237 : E234 (20 + n) (11 + 10 * k) = .inl (kA 6, rs, .inr (.inr (.inr (.inr (va_up fr1 i (some (ad (20 + z44) (10 + 10 * z45)))))))) := by rw [← hE235]; exact up2_eq
        have c_238 : E234 (20 + n) (15 + 10 * k) = .inl (kA 0, 6, .inl ga1) := (fE236 (20 + n) (15 + 10 * k) (by omega)).trans hc5
        have c_239 : E234 (20 + n) (16 + 10 * k) = .inl (kA 0, 6, .inl gb1) := (fE236 (20 + n) (16 + 10 * k) (by omega)).trans hc6
        have c_240 : E234 (20 + n) (10 + 10 * k) = .inr (6, [.ref (ad (20 + n) 0), .ref (ad (1 + d) 0), .ref (ad (20 + n) (11 + 10 * k)), .ref (ad (20 + n) (12 + 10 * k)), .ref (ad (20 + n) (13 + 10 * k)), .ref (ad (20 + n) (14 + 10 * k))]) := (fE236 (20 + n) (10 + 10 * k) (by omega)).trans c_2
        have c_241 : E234 (20 + n) (12 + 10 * k) = .inr (10, [.ref (ad (20 + n) (15 + 10 * k))]) := (fE236 (20 + n) (12 + 10 * k) (by omega)).trans c_3
        have c_242 : E234 (20 + n) (13 + 10 * k) = .inr (10, [.ref (ad (20 + n) (16 + 10 * k))]) := (fE236 (20 + n) (13 + 10 * k) (by omega)).trans c_4
        have c_243 : E234 (1 + d) 0 = .inr (7, [.int (nI d), .int fd_6, .int nm_6, .ref (ad (1 + d) 1), .ref (ad (1 + d) 9), .ref (ad (1 + d) 10), .ref (ad (1 + d) 2), .ref (ad (1 + d) 11), .ref (ad (1 + d) 12), .ref (ad (1 + d) 3), .ref (ad (1 + d) 4), .int sd_6]) := (fE236 (1 + d) 0 (by omega)).trans c_7
        have c_244 : E234 (1 + d) 1 = .inr (8, [.ref (ad (1 + d) 5), .int (nI k0_6)]) := (fE236 (1 + d) 1 (by omega)).trans c_9
        have c_245 : E234 (1 + d) 2 = .inr (8, [.ref (ad (1 + d) 6), .int (nI k1_6)]) := (fE236 (1 + d) 2 (by omega)).trans c_11
        have c_246 : E234 (1 + d) 3 = .inr (8, [.ref (ad (1 + d) 7), .int (nI k2_6)]) := (fE236 (1 + d) 3 (by omega)).trans c_13
        have c_247 : E234 (1 + d) 4 = .inr (8, [.ref (ad (1 + d) 8), .int (nI k3_6)]) := (fE236 (1 + d) 4 (by omega)).trans c_15
        have c_248 : E234 (1 + d) 5 = .inl (kA 0, 6, .inl f0_6) := (fE236 (1 + d) 5 (by omega)).trans c_17
        have c_249 : E234 (1 + d) 6 = .inl (kA 0, 5, .inl f1_6) := (fE236 (1 + d) 6 (by omega)).trans c_19
        have c_250 : E234 (1 + d) 7 = .inl (kA 0, 3, .inl f2_6) := (fE236 (1 + d) 7 (by omega)).trans c_21
        have c_251 : E234 (1 + d) 8 = .inl (kA 0, 3, .inl f3_6) := (fE236 (1 + d) 8 (by omega)).trans c_23
        have c_252 : E234 (1 + d) 9 = .inl (kA 8, 6, .inr (.inr (.inr (.inr fe_6)))) := (fE236 (1 + d) 9 (by omega)).trans c_25
        have c_253 : E234 (1 + d) 10 = .inl (kA 8, 6, .inr (.inr (.inr (.inr fo_6)))) := (fE236 (1 + d) 10 (by omega)).trans c_27
        have c_254 : E234 (1 + d) 11 = .inl (kA 2, 5, .inl tr_6) := (fE236 (1 + d) 11 (by omega)).trans c_29
        have c_255 : E234 (1 + d) 12 = .inl (kA 2, 5, .inl op_6) := (fE236 (1 + d) 12 (by omega)).trans c_31
        have c_256 : E234 (20 + n) 0 = .inr (5, [.int (nI n), pv_36, .ref (ad (20 + n) 1), .int op_36]) := (fE236 (20 + n) 0 (by omega)).trans c_37
        have c_257 : E234 (20 + n) 1 = .inl (kA 6, mk_36, .inr (.inr (.inr (.inr fm_36)))) := (fE236 (20 + n) 1 (by omega)).trans c_39
        have c_258 : E234 (20 + z44) (10 + 10 * z45) = .inr (6, [.ref (ad (20 + z44) 0), .ref (ad (1 + d_185) 0), .ref (ad (20 + z44) (11 + 10 * z45)), .ref (ad (20 + z44) (12 + 10 * z45)), .ref (ad (20 + z44) (13 + 10 * z45)), .ref (ad (20 + z44) (14 + 10 * z45))]) := (fE236 (20 + z44) (10 + 10 * z45) (by omega)).trans c_186
        have c_259 : E234 (20 + z44) (11 + 10 * z45) = .inl (kA 6, rs_185, .inr (.inr (.inr (.inr fr_185)))) := (fE236 (20 + z44) (11 + 10 * z45) (by omega)).trans c_188
        have c_260 : E234 (20 + z44) (12 + 10 * z45) = .inr (10, [.ref (ad (20 + z44) (15 + 10 * z45))]) := (fE236 (20 + z44) (12 + 10 * z45) (by omega)).trans c_190
        have c_261 : E234 (20 + z44) (13 + 10 * z45) = .inr (10, [.ref (ad (20 + z44) (16 + 10 * z45))]) := (fE236 (20 + z44) (13 + 10 * z45) (by omega)).trans c_192
        have c_262 : E234 (20 + z44) (14 + 10 * z45) = .inr (10, [.ref (ad (20 + z44) (17 + 10 * z45))]) := (fE236 (20 + z44) (14 + 10 * z45) (by omega)).trans c_194
        have c_263 : E234 (20 + z44) (15 + 10 * z45) = .inl (kA 0, 6, .inl g2_185) := (fE236 (20 + z44) (15 + 10 * z45) (by omega)).trans c_196
        have c_264 : E234 (20 + z44) (16 + 10 * z45) = .inl (kA 0, 6, .inl g3_185) := (fE236 (20 + z44) (16 + 10 * z45) (by omega)).trans c_198
        have c_265 : E234 (20 + z44) (17 + 10 * z45) = .inl (kA 0, 6, .inl g4_185) := (fE236 (20 + z44) (17 + 10 * z45) (by omega)).trans c_200
        have c_266 : E234 (20 + z44) 0 = .inr (5, [.int (nI z44), pv_202, .ref (ad (20 + z44) 1), .int op_202]) := (fE236 (20 + z44) 0 (by omega)).trans c_203
        have c_267 : E234 (20 + z44) 1 = .inl (kA 6, mk_202, .inr (.inr (.inr (.inr fm_202)))) := (fE236 (20 + z44) 1 (by omega)).trans c_205
        have c_268 : E234 (1 + d_185) 0 = .inr (7, [.int (nI d_185), .int fd_207, .int nm_207, .ref (ad (1 + d_185) 1), .ref (ad (1 + d_185) 9), .ref (ad (1 + d_185) 10), .ref (ad (1 + d_185) 2), .ref (ad (1 + d_185) 11), .ref (ad (1 + d_185) 12), .ref (ad (1 + d_185) 3), .ref (ad (1 + d_185) 4), .int sd_207]) := (fE236 (1 + d_185) 0 (by omega)).trans c_208
        have c_269 : E234 (1 + d_185) 1 = .inr (8, [.ref (ad (1 + d_185) 5), .int (nI k0_207)]) := (fE236 (1 + d_185) 1 (by omega)).trans c_210
        have c_270 : E234 (1 + d_185) 2 = .inr (8, [.ref (ad (1 + d_185) 6), .int (nI k1_207)]) := (fE236 (1 + d_185) 2 (by omega)).trans c_212
        have c_271 : E234 (1 + d_185) 3 = .inr (8, [.ref (ad (1 + d_185) 7), .int (nI k2_207)]) := (fE236 (1 + d_185) 3 (by omega)).trans c_214
        have c_272 : E234 (1 + d_185) 4 = .inr (8, [.ref (ad (1 + d_185) 8), .int (nI k3_207)]) := (fE236 (1 + d_185) 4 (by omega)).trans c_216
        have c_273 : E234 (1 + d_185) 5 = .inl (kA 0, 6, .inl f0_207) := (fE236 (1 + d_185) 5 (by omega)).trans c_218
        have c_274 : E234 (1 + d_185) 6 = .inl (kA 0, 5, .inl f1_207) := (fE236 (1 + d_185) 6 (by omega)).trans c_220
        have c_275 : E234 (1 + d_185) 7 = .inl (kA 0, 3, .inl f2_207) := (fE236 (1 + d_185) 7 (by omega)).trans c_222
        have c_276 : E234 (1 + d_185) 8 = .inl (kA 0, 3, .inl f3_207) := (fE236 (1 + d_185) 8 (by omega)).trans c_224
        have c_277 : E234 (1 + d_185) 9 = .inl (kA 8, 6, .inr (.inr (.inr (.inr fe_207)))) := (fE236 (1 + d_185) 9 (by omega)).trans c_226
        have c_278 : E234 (1 + d_185) 10 = .inl (kA 8, 6, .inr (.inr (.inr (.inr fo_207)))) := (fE236 (1 + d_185) 10 (by omega)).trans c_228
        have c_279 : E234 (1 + d_185) 11 = .inl (kA 2, 5, .inl tr_207) := (fE236 (1 + d_185) 11 (by omega)).trans c_230
        have c_280 : E234 (1 + d_185) 12 = .inl (kA 2, 5, .inl op_207) := (fE236 (1 + d_185) 12 (by omega)).trans c_232
        refine lv_aload_n hx hb xd_Me_takeFirstSteps_37 rfl (lv_at hl 0 rfl) ?_
        refine lv_ifnull hx hb xd_Me_takeFirstSteps_38 ?_
        refine lv_aload_n hx hb xd_Me_takeFirstSteps_41 rfl (lv_at hl 2 rfl) ?_
        refine px_get (D := D) (ci := 6) (v := .ref (ad (1 + d) 0)) (C := xR_Me) (T := xT_Me) (N := 6) hx hb hT xi_Me hown hK.1 hP ym0 c_240 rfl 1 (by decide) (hT _ ys3_2) (fun _ h9 => h9) rfl xd_Me_takeFirstSteps_42 ?_
        refine px_get (D := D) (ci := 7) (v := .ref (ad (1 + d) 12)) (C := xR_Ds) (T := xT_Ds) (N := 12) hx hb hT xi_Ds hown hK.1 hP m_8 c_243 rfl 8 (by decide) (hT _ ys3_14) (fun _ h9 => h9) rfl xd_Me_takeFirstSteps_45 ?_
        refine lv_iload_n hx hb xd_Me_takeFirstSteps_48 rfl (lv_at hl 1 rfl) ?_
        refine px_zald (i := i) hx hb hK.1 hP m_32 c_255 2 rfl (by omega) (by decide) xd_Me_takeFirstSteps_49 ?_
        refine lv_if_ne (tgt := 61) hx hb xd_Me_takeFirstSteps_50 (by decide) (fun hc281 => ?_) (fun hc281 => ?_)
        · refine lv_aload_n hx hb xd_Me_takeFirstSteps_61 rfl (lv_at hl 0 rfl) ?_
          refine lv_ifnull hx hb xd_Me_takeFirstSteps_62 ?_
          refine lv_aload_n hx hb xd_Me_takeFirstSteps_65 rfl (lv_at hl 2 rfl) ?_
          refine px_get (D := D) (ci := 6) (v := .ref (ad (1 + d) 0)) (C := xR_Me) (T := xT_Me) (N := 6) hx hb hT xi_Me hown hK.1 hP ym0 c_240 rfl 1 (by decide) (hT _ ys3_2) (fun _ h9 => h9) rfl xd_Me_takeFirstSteps_66 ?_
          refine px_get (D := D) (ci := 7) (v := .ref (ad (1 + d) 11)) (C := xR_Ds) (T := xT_Ds) (N := 12) hx hb hT xi_Ds hown hK.1 hP m_8 c_243 rfl 7 (by decide) (hT _ ys3_15) (fun _ h9 => h9) rfl xd_Me_takeFirstSteps_69 ?_
          refine lv_iload_n hx hb xd_Me_takeFirstSteps_72 rfl (lv_at hl 1 rfl) ?_
          refine px_zald (i := i) hx hb hK.1 hP m_30 c_254 2 rfl (by omega) (by decide) xd_Me_takeFirstSteps_73 ?_
          refine lv_if_eq (tgt := 107) hx hb xd_Me_takeFirstSteps_74 (by decide) (fun hc282 => ?_) (fun hc282 => ?_)
          · refine lv_iinc (k := 1) (x := (nI i)) (v := (nI (i + 1))) hx hb xd_Me_takeFirstSteps_107 hl rfl (xb_inc i 1) (Nat.le_of_ble_eq_true rfl) rfl (fun ls hl => ?_)
            have hl : lv_has ls 3 [(1, .int (nI (i + 1))), (2, .ref (ad (20 + z44) (10 + 10 * z45))), (0, .ref (ad (20 + n) (10 + 10 * k)))] := hl
            refine lv_goto (tgt := 2) hx hb xd_Me_takeFirstSteps_110 (by decide) ?_
            exact ih1 (i + 1, E234, (va_up fr1 i (some (ad (20 + z44) (10 + 10 * z45)))), ga1, gb1) _ _ _ (show rs - (i + 1) < rs - i by omega) (lv_sub hl [0, 2] rfl) hP hD hS ⟨(show (i + 1) ≤ rs from by first | assumption | omega), (show E234 (20 + n) (11 + 10 * k) = .inl (kA 6, rs, .inr (.inr (.inr (.inr (va_up fr1 i (some (ad (20 + z44) (10 + 10 * z45)))))))) from c_237), (show E234 (20 + n) (15 + 10 * k) = .inl (kA 0, 6, .inl ga1) from c_238), (show E234 (20 + n) (16 + 10 * k) = .inl (kA 0, 6, .inl gb1) from c_239), (show ∀ b2 o2, ¬ (b2 = 20 + n ∧ o2 = 11 + 10 * k) → ¬ (b2 = 20 + n ∧ o2 = 15 + 10 * k) → ¬ (b2 = 20 + n ∧ o2 = 16 + 10 * k) → E234 b2 o2 = E b2 o2 from fun b2 o2 h09 h19 h29 => by rw [fE236 b2 o2 (by omega), hfr b2 o2 (by omega) (by omega) (by omega)]), (show RQ kA ad E234 RL nd n (i + 1) (va_up fr1 i (some (ad (20 + z44) (10 + 10 * z45)))) from RQ_RU (RU3 (b := 20 + n) (by omega) hc1 hc5 hc6 c_237 c_238 c_239 (fun b2 o2 h19 h29 h39 => by rw [fE236 b2 o2 (by omega)])) (RQ_add hRQ (by omega) z47))⟩
          · refine lv_aload_n hx hb xd_Me_takeFirstSteps_77 rfl (lv_at hl 2 rfl) ?_
            refine px_get (D := D) (ci := 6) (v := .ref (ad (20 + n) (13 + 10 * k))) (C := xR_Me) (T := xT_Me) (N := 6) hx hb hT xi_Me hown hK.1 hP ym0 c_240 rfl 4 (by decide) (hT _ ys3_16) (fun _ h9 => h9) rfl xd_Me_takeFirstSteps_78 ?_
            refine lv_aload_n hx hb xd_Me_takeFirstSteps_81 rfl (lv_at hl 0 rfl) ?_
            have hFc := px_free hD hS hA
            refine va_callv (va_runV (As := [.ref (ad (20 + z44) (10 + 10 * z45))]) (rest := []) ⟨hx, hb, hml, hown, hT⟩ (xc_Re_mark l D kA H.size ad E234 RL (20 + n) (13 + 10 * k) (16 + 10 * k) gb1 z44 z45 d_185 pv_202 op_202 fd_207 nm_207 sd_207 ym3 c_242 ym5 c_239 m_187 c_258 m_204 c_266 m_209 c_268 (by first | assumption | omega) (by first | assumption | omega) (by first | assumption | omega)) (cwV 1 hT (wT_V ys3_18 ys3_19 ys3_20 ys3_21 ys3_17) rfl rfl rfl (by decide +kernel) ⟨Nat.le_of_ble_eq_true rfl, Nat.le_of_ble_eq_true rfl⟩) (px_preV hK hP hD ym3 c_242 rfl) rfl rfl hl.1 rfl (lv_room (Nat.le_of_ble_eq_true rfl)) xd_Me_takeFirstSteps_82 ⟨(Nat.le_of_ble_eq_true rfl), (Nat.le_of_ble_eq_true rfl)⟩) hS (fun q _ h => hFc q h) hFc (fun u284 t H1 locs ht hvm hp285 hB hz1 hk1 hS => ?_)
            obtain ⟨hP1, hD1⟩ := hB
            rw [ht] at hP1
            have hD1 := hD1.weaken (fun _ _ _ h => hFc _ h)
            generalize H1 = H at hP1 hS ⊢
            have hP := hP1
            have hD := hD1
            obtain ⟨E286, rfl⟩ : ∃ z, z = u284 := ⟨_, rfl⟩
            obtain ⟨w287, hp290, p_288, p_289⟩ := hp285
            have p_288 : E286 (20 + n) (16 + 10 * k) = .inl (kA 0, 6, .inl w287) := p_288
            have p_289 : (∀ b2 o2, ¬ (b2 = (20 + n) ∧ o2 = (16 + 10 * k)) → E286 b2 o2 = E234 b2 o2) := p_289
            have c_291 : E286 (20 + n) (11 + 10 * k) = .inl (kA 6, rs, .inr (.inr (.inr (.inr (va_up fr1 i (some (ad (20 + z44) (10 + 10 * z45)))))))) := (p_289 (20 + n) (11 + 10 * k) (by omega)).trans c_237
            have c_292 : E286 (20 + n) (15 + 10 * k) = .inl (kA 0, 6, .inl ga1) := (p_289 (20 + n) (15 + 10 * k) (by omega)).trans c_238
            have c_293 : E286 (20 + n) (10 + 10 * k) = .inr (6, [.ref (ad (20 + n) 0), .ref (ad (1 + d) 0), .ref (ad (20 + n) (11 + 10 * k)), .ref (ad (20 + n) (12 + 10 * k)), .ref (ad (20 + n) (13 + 10 * k)), .ref (ad (20 + n) (14 + 10 * k))]) := (p_289 (20 + n) (10 + 10 * k) (by omega)).trans c_240
            have c_294 : E286 (20 + n) (12 + 10 * k) = .inr (10, [.ref (ad (20 + n) (15 + 10 * k))]) := (p_289 (20 + n) (12 + 10 * k) (by omega)).trans c_241
            have c_295 : E286 (20 + n) (13 + 10 * k) = .inr (10, [.ref (ad (20 + n) (16 + 10 * k))]) := (p_289 (20 + n) (13 + 10 * k) (by omega)).trans c_242
            have c_296 : E286 (1 + d) 0 = .inr (7, [.int (nI d), .int fd_6, .int nm_6, .ref (ad (1 + d) 1), .ref (ad (1 + d) 9), .ref (ad (1 + d) 10), .ref (ad (1 + d) 2), .ref (ad (1 + d) 11), .ref (ad (1 + d) 12), .ref (ad (1 + d) 3), .ref (ad (1 + d) 4), .int sd_6]) := (p_289 (1 + d) 0 (by omega)).trans c_243
            have c_297 : E286 (1 + d) 1 = .inr (8, [.ref (ad (1 + d) 5), .int (nI k0_6)]) := (p_289 (1 + d) 1 (by omega)).trans c_244
            have c_298 : E286 (1 + d) 2 = .inr (8, [.ref (ad (1 + d) 6), .int (nI k1_6)]) := (p_289 (1 + d) 2 (by omega)).trans c_245
            have c_299 : E286 (1 + d) 3 = .inr (8, [.ref (ad (1 + d) 7), .int (nI k2_6)]) := (p_289 (1 + d) 3 (by omega)).trans c_246
            have c_300 : E286 (1 + d) 4 = .inr (8, [.ref (ad (1 + d) 8), .int (nI k3_6)]) := (p_289 (1 + d) 4 (by omega)).trans c_247
            have c_301 : E286 (1 + d) 5 = .inl (kA 0, 6, .inl f0_6) := (p_289 (1 + d) 5 (by omega)).trans c_248
            have c_302 : E286 (1 + d) 6 = .inl (kA 0, 5, .inl f1_6) := (p_289 (1 + d) 6 (by omega)).trans c_249
            have c_303 : E286 (1 + d) 7 = .inl (kA 0, 3, .inl f2_6) := (p_289 (1 + d) 7 (by omega)).trans c_250
            have c_304 : E286 (1 + d) 8 = .inl (kA 0, 3, .inl f3_6) := (p_289 (1 + d) 8 (by omega)).trans c_251
            have c_305 : E286 (1 + d) 9 = .inl (kA 8, 6, .inr (.inr (.inr (.inr fe_6)))) := (p_289 (1 + d) 9 (by omega)).trans c_252
            have c_306 : E286 (1 + d) 10 = .inl (kA 8, 6, .inr (.inr (.inr (.inr fo_6)))) := (p_289 (1 + d) 10 (by omega)).trans c_253
            have c_307 : E286 (1 + d) 11 = .inl (kA 2, 5, .inl tr_6) := (p_289 (1 + d) 11 (by omega)).trans c_254
            have c_308 : E286 (1 + d) 12 = .inl (kA 2, 5, .inl op_6) := (p_289 (1 + d) 12 (by omega)).trans c_255
            have c_309 : E286 (20 + n) 0 = .inr (5, [.int (nI n), pv_36, .ref (ad (20 + n) 1), .int op_36]) := (p_289 (20 + n) 0 (by omega)).trans c_256
            have c_310 : E286 (20 + n) 1 = .inl (kA 6, mk_36, .inr (.inr (.inr (.inr fm_36)))) := (p_289 (20 + n) 1 (by omega)).trans c_257
            have c_311 : E286 (20 + z44) (10 + 10 * z45) = .inr (6, [.ref (ad (20 + z44) 0), .ref (ad (1 + d_185) 0), .ref (ad (20 + z44) (11 + 10 * z45)), .ref (ad (20 + z44) (12 + 10 * z45)), .ref (ad (20 + z44) (13 + 10 * z45)), .ref (ad (20 + z44) (14 + 10 * z45))]) := (p_289 (20 + z44) (10 + 10 * z45) (by omega)).trans c_258
            have c_312 : E286 (20 + z44) (11 + 10 * z45) = .inl (kA 6, rs_185, .inr (.inr (.inr (.inr fr_185)))) := (p_289 (20 + z44) (11 + 10 * z45) (by omega)).trans c_259
            have c_313 : E286 (20 + z44) (12 + 10 * z45) = .inr (10, [.ref (ad (20 + z44) (15 + 10 * z45))]) := (p_289 (20 + z44) (12 + 10 * z45) (by omega)).trans c_260
            have c_314 : E286 (20 + z44) (13 + 10 * z45) = .inr (10, [.ref (ad (20 + z44) (16 + 10 * z45))]) := (p_289 (20 + z44) (13 + 10 * z45) (by omega)).trans c_261
            have c_315 : E286 (20 + z44) (14 + 10 * z45) = .inr (10, [.ref (ad (20 + z44) (17 + 10 * z45))]) := (p_289 (20 + z44) (14 + 10 * z45) (by omega)).trans c_262
            have c_316 : E286 (20 + z44) (15 + 10 * z45) = .inl (kA 0, 6, .inl g2_185) := (p_289 (20 + z44) (15 + 10 * z45) (by omega)).trans c_263
            have c_317 : E286 (20 + z44) (16 + 10 * z45) = .inl (kA 0, 6, .inl g3_185) := (p_289 (20 + z44) (16 + 10 * z45) (by omega)).trans c_264
            have c_318 : E286 (20 + z44) (17 + 10 * z45) = .inl (kA 0, 6, .inl g4_185) := (p_289 (20 + z44) (17 + 10 * z45) (by omega)).trans c_265
            have c_319 : E286 (20 + z44) 0 = .inr (5, [.int (nI z44), pv_202, .ref (ad (20 + z44) 1), .int op_202]) := (p_289 (20 + z44) 0 (by omega)).trans c_266
            have c_320 : E286 (20 + z44) 1 = .inl (kA 6, mk_202, .inr (.inr (.inr (.inr fm_202)))) := (p_289 (20 + z44) 1 (by omega)).trans c_267
            have c_321 : E286 (1 + d_185) 0 = .inr (7, [.int (nI d_185), .int fd_207, .int nm_207, .ref (ad (1 + d_185) 1), .ref (ad (1 + d_185) 9), .ref (ad (1 + d_185) 10), .ref (ad (1 + d_185) 2), .ref (ad (1 + d_185) 11), .ref (ad (1 + d_185) 12), .ref (ad (1 + d_185) 3), .ref (ad (1 + d_185) 4), .int sd_207]) := (p_289 (1 + d_185) 0 (by omega)).trans c_268
            have c_322 : E286 (1 + d_185) 1 = .inr (8, [.ref (ad (1 + d_185) 5), .int (nI k0_207)]) := (p_289 (1 + d_185) 1 (by omega)).trans c_269
            have c_323 : E286 (1 + d_185) 2 = .inr (8, [.ref (ad (1 + d_185) 6), .int (nI k1_207)]) := (p_289 (1 + d_185) 2 (by omega)).trans c_270
            have c_324 : E286 (1 + d_185) 3 = .inr (8, [.ref (ad (1 + d_185) 7), .int (nI k2_207)]) := (p_289 (1 + d_185) 3 (by omega)).trans c_271
            have c_325 : E286 (1 + d_185) 4 = .inr (8, [.ref (ad (1 + d_185) 8), .int (nI k3_207)]) := (p_289 (1 + d_185) 4 (by omega)).trans c_272
            have c_326 : E286 (1 + d_185) 5 = .inl (kA 0, 6, .inl f0_207) := (p_289 (1 + d_185) 5 (by omega)).trans c_273
            have c_327 : E286 (1 + d_185) 6 = .inl (kA 0, 5, .inl f1_207) := (p_289 (1 + d_185) 6 (by omega)).trans c_274
            have c_328 : E286 (1 + d_185) 7 = .inl (kA 0, 3, .inl f2_207) := (p_289 (1 + d_185) 7 (by omega)).trans c_275
            have c_329 : E286 (1 + d_185) 8 = .inl (kA 0, 3, .inl f3_207) := (p_289 (1 + d_185) 8 (by omega)).trans c_276
            have c_330 : E286 (1 + d_185) 9 = .inl (kA 8, 6, .inr (.inr (.inr (.inr fe_207)))) := (p_289 (1 + d_185) 9 (by omega)).trans c_277
            have c_331 : E286 (1 + d_185) 10 = .inl (kA 8, 6, .inr (.inr (.inr (.inr fo_207)))) := (p_289 (1 + d_185) 10 (by omega)).trans c_278
            have c_332 : E286 (1 + d_185) 11 = .inl (kA 2, 5, .inl tr_207) := (p_289 (1 + d_185) 11 (by omega)).trans c_279
            have c_333 : E286 (1 + d_185) 12 = .inl (kA 2, 5, .inl op_207) := (p_289 (1 + d_185) 12 (by omega)).trans c_280
            have hP : va_P D xcl (rp ad E286 RL) H := hP
            have hD : va_D A (rp ad E286 RL) := hD
            refine lv_aload_n hx hb xd_Me_takeFirstSteps_85 rfl (lv_at hl 0 rfl) ?_
            refine px_get (D := D) (ci := 6) (v := .ref (ad (20 + z44) 0)) (C := xR_Me) (T := xT_Me) (N := 6) hx hb hT xi_Me hown hK.1 hP m_187 c_311 rfl 0 (by decide) (hT _ ys3_1) (fun _ h9 => h9) rfl xd_Me_takeFirstSteps_86 ?_
            refine lv_aload_n hx hb xd_Me_takeFirstSteps_89 rfl (lv_at hl 2 rfl) ?_
            refine px_get (D := D) (ci := 6) (v := .ref (ad (20 + n) 0)) (C := xR_Me) (T := xT_Me) (N := 6) hx hb hT xi_Me hown hK.1 hP ym0 c_293 rfl 0 (by decide) (hT _ ys3_1) (fun _ h9 => h9) rfl xd_Me_takeFirstSteps_90 ?_
            refine lv_acmp_eq (rx := (some (ad (20 + z44) 0))) (ry := (some (ad (20 + n) 0))) (tgt := 107) hx hb xd_Me_takeFirstSteps_93 (by decide) (fun hc334 => ?_) (fun hc334 => ?_)
            · refine lv_iinc (k := 1) (x := (nI i)) (v := (nI (i + 1))) hx hb xd_Me_takeFirstSteps_107 hl rfl (xb_inc i 1) (Nat.le_of_ble_eq_true rfl) rfl (fun ls hl => ?_)
              have hl : lv_has ls 3 [(1, .int (nI (i + 1))), (2, .ref (ad (20 + z44) (10 + 10 * z45))), (0, .ref (ad (20 + n) (10 + 10 * k)))] := hl
              refine lv_goto (tgt := 2) hx hb xd_Me_takeFirstSteps_110 (by decide) ?_
              exact ih1 (i + 1, E286, (va_up fr1 i (some (ad (20 + z44) (10 + 10 * z45)))), ga1, w287) _ _ _ (show rs - (i + 1) < rs - i by omega) (lv_sub hl [0, 2] rfl) hP hD hS ⟨(show (i + 1) ≤ rs from by first | assumption | omega), (show E286 (20 + n) (11 + 10 * k) = .inl (kA 6, rs, .inr (.inr (.inr (.inr (va_up fr1 i (some (ad (20 + z44) (10 + 10 * z45)))))))) from c_291), (show E286 (20 + n) (15 + 10 * k) = .inl (kA 0, 6, .inl ga1) from c_292), (show E286 (20 + n) (16 + 10 * k) = .inl (kA 0, 6, .inl w287) from p_288), (show ∀ b2 o2, ¬ (b2 = 20 + n ∧ o2 = 11 + 10 * k) → ¬ (b2 = 20 + n ∧ o2 = 15 + 10 * k) → ¬ (b2 = 20 + n ∧ o2 = 16 + 10 * k) → E286 b2 o2 = E b2 o2 from fun b2 o2 h09 h19 h29 => by rw [p_289 b2 o2 (by omega), fE236 b2 o2 (by omega), hfr b2 o2 (by omega) (by omega) (by omega)]), (show RQ kA ad E286 RL nd n (i + 1) (va_up fr1 i (some (ad (20 + z44) (10 + 10 * z45)))) from RQ_RU (RU3 (b := 20 + n) (by omega) hc1 hc5 hc6 c_291 c_292 p_288 (fun b2 o2 h19 h29 h39 => by rw [p_289 b2 o2 (by omega), fE236 b2 o2 (by omega)])) (RQ_add hRQ (by omega) z47))⟩
            · have hxn : ¬ z44 = n := fun e9 => hc334 (by rw [e9])
              refine lv_aload_n hx hb xd_Me_takeFirstSteps_96 rfl (lv_at hl 2 rfl) ?_
              refine px_get (D := D) (ci := 6) (v := .ref (ad (20 + n) (13 + 10 * k))) (C := xR_Me) (T := xT_Me) (N := 6) hx hb hT xi_Me hown hK.1 hP ym0 c_293 rfl 4 (by decide) (hT _ ys3_16) (fun _ h9 => h9) rfl xd_Me_takeFirstSteps_97 ?_
              refine lv_aload_n hx hb xd_Me_takeFirstSteps_100 rfl (lv_at hl 0 rfl) ?_
              refine px_get (D := D) (ci := 6) (v := .ref (ad (20 + z44) (13 + 10 * z45))) (C := xR_Me) (T := xT_Me) (N := 6) hx hb hT xi_Me hown hK.1 hP m_187 c_311 rfl 4 (by decide) (hT _ ys3_16) (fun _ h9 => h9) rfl xd_Me_takeFirstSteps_101 ?_
              have hFc := px_free hD hS hA
              refine va_callv (va_runV (As := [.ref (ad (20 + z44) (13 + 10 * z45))]) (rest := []) ⟨hx, hb, hml, hown, hT⟩ (xc_Re_join l D kA H.size ad E286 RL (20 + n) (13 + 10 * k) (16 + 10 * k) w287 (20 + z44) (13 + 10 * z45) (16 + 10 * z45) g3_185 ym3 c_295 ym5 p_288 m_193 c_314 m_199 c_317 (by first | assumption | omega) (by first | assumption | omega)) (cwV 1 hT (wT_V ys3_24 ys3_25 ys3_26 ys3_21 ys3_23) rfl rfl rfl (by decide +kernel) ⟨Nat.le_of_ble_eq_true rfl, Nat.le_of_ble_eq_true rfl⟩) (px_preV hK hP hD ym3 c_295 rfl) rfl rfl hl.1 rfl (lv_room (Nat.le_of_ble_eq_true rfl)) xd_Me_takeFirstSteps_104 ⟨(Nat.le_of_ble_eq_true rfl), (Nat.le_of_ble_eq_true rfl)⟩) hS (fun q _ h => hFc q h) hFc (fun u336 t H1 locs ht hvm hp337 hB hz1 hk1 hS => ?_)
              obtain ⟨hP1, hD1⟩ := hB
              rw [ht] at hP1
              have hD1 := hD1.weaken (fun _ _ _ h => hFc _ h)
              generalize H1 = H at hP1 hS ⊢
              have hP := hP1
              have hD := hD1
              obtain ⟨E338, rfl⟩ : ∃ z, z = u336 := ⟨_, rfl⟩
              obtain ⟨w339, hp342, p_340, p_341⟩ := hp337
              have p_340 : E338 (20 + n) (16 + 10 * k) = .inl (kA 0, 6, .inl w339) := p_340
              have p_341 : (∀ b2 o2, ¬ (b2 = (20 + n) ∧ o2 = (16 + 10 * k)) → E338 b2 o2 = E286 b2 o2) := p_341
              have c_343 : E338 (20 + n) (11 + 10 * k) = .inl (kA 6, rs, .inr (.inr (.inr (.inr (va_up fr1 i (some (ad (20 + z44) (10 + 10 * z45)))))))) := (p_341 (20 + n) (11 + 10 * k) (by omega)).trans c_291
              have c_344 : E338 (20 + n) (15 + 10 * k) = .inl (kA 0, 6, .inl ga1) := (p_341 (20 + n) (15 + 10 * k) (by omega)).trans c_292
              have c_345 : E338 (20 + n) (10 + 10 * k) = .inr (6, [.ref (ad (20 + n) 0), .ref (ad (1 + d) 0), .ref (ad (20 + n) (11 + 10 * k)), .ref (ad (20 + n) (12 + 10 * k)), .ref (ad (20 + n) (13 + 10 * k)), .ref (ad (20 + n) (14 + 10 * k))]) := (p_341 (20 + n) (10 + 10 * k) (by omega)).trans c_293
              have c_346 : E338 (20 + n) (12 + 10 * k) = .inr (10, [.ref (ad (20 + n) (15 + 10 * k))]) := (p_341 (20 + n) (12 + 10 * k) (by omega)).trans c_294
              have c_347 : E338 (20 + n) (13 + 10 * k) = .inr (10, [.ref (ad (20 + n) (16 + 10 * k))]) := (p_341 (20 + n) (13 + 10 * k) (by omega)).trans c_295
              have c_348 : E338 (1 + d) 0 = .inr (7, [.int (nI d), .int fd_6, .int nm_6, .ref (ad (1 + d) 1), .ref (ad (1 + d) 9), .ref (ad (1 + d) 10), .ref (ad (1 + d) 2), .ref (ad (1 + d) 11), .ref (ad (1 + d) 12), .ref (ad (1 + d) 3), .ref (ad (1 + d) 4), .int sd_6]) := (p_341 (1 + d) 0 (by omega)).trans c_296
              have c_349 : E338 (1 + d) 1 = .inr (8, [.ref (ad (1 + d) 5), .int (nI k0_6)]) := (p_341 (1 + d) 1 (by omega)).trans c_297
              have c_350 : E338 (1 + d) 2 = .inr (8, [.ref (ad (1 + d) 6), .int (nI k1_6)]) := (p_341 (1 + d) 2 (by omega)).trans c_298
              have c_351 : E338 (1 + d) 3 = .inr (8, [.ref (ad (1 + d) 7), .int (nI k2_6)]) := (p_341 (1 + d) 3 (by omega)).trans c_299
              have c_352 : E338 (1 + d) 4 = .inr (8, [.ref (ad (1 + d) 8), .int (nI k3_6)]) := (p_341 (1 + d) 4 (by omega)).trans c_300
              have c_353 : E338 (1 + d) 5 = .inl (kA 0, 6, .inl f0_6) := (p_341 (1 + d) 5 (by omega)).trans c_301
              have c_354 : E338 (1 + d) 6 = .inl (kA 0, 5, .inl f1_6) := (p_341 (1 + d) 6 (by omega)).trans c_302
              have c_355 : E338 (1 + d) 7 = .inl (kA 0, 3, .inl f2_6) := (p_341 (1 + d) 7 (by omega)).trans c_303
              have c_356 : E338 (1 + d) 8 = .inl (kA 0, 3, .inl f3_6) := (p_341 (1 + d) 8 (by omega)).trans c_304
              have c_357 : E338 (1 + d) 9 = .inl (kA 8, 6, .inr (.inr (.inr (.inr fe_6)))) := (p_341 (1 + d) 9 (by omega)).trans c_305
              have c_358 : E338 (1 + d) 10 = .inl (kA 8, 6, .inr (.inr (.inr (.inr fo_6)))) := (p_341 (1 + d) 10 (by omega)).trans c_306
              have c_359 : E338 (1 + d) 11 = .inl (kA 2, 5, .inl tr_6) := (p_341 (1 + d) 11 (by omega)).trans c_307
              have c_360 : E338 (1 + d) 12 = .inl (kA 2, 5, .inl op_6) := (p_341 (1 + d) 12 (by omega)).trans c_308
              have c_361 : E338 (20 + n) 0 = .inr (5, [.int (nI n), pv_36, .ref (ad (20 + n) 1), .int op_36]) := (p_341 (20 + n) 0 (by omega)).trans c_309
              have c_362 : E338 (20 + n) 1 = .inl (kA 6, mk_36, .inr (.inr (.inr (.inr fm_36)))) := (p_341 (20 + n) 1 (by omega)).trans c_310
              have c_363 : E338 (20 + z44) (10 + 10 * z45) = .inr (6, [.ref (ad (20 + z44) 0), .ref (ad (1 + d_185) 0), .ref (ad (20 + z44) (11 + 10 * z45)), .ref (ad (20 + z44) (12 + 10 * z45)), .ref (ad (20 + z44) (13 + 10 * z45)), .ref (ad (20 + z44) (14 + 10 * z45))]) := (p_341 (20 + z44) (10 + 10 * z45) (by omega)).trans c_311
              have c_364 : E338 (20 + z44) (11 + 10 * z45) = .inl (kA 6, rs_185, .inr (.inr (.inr (.inr fr_185)))) := (p_341 (20 + z44) (11 + 10 * z45) (by omega)).trans c_312
              have c_365 : E338 (20 + z44) (12 + 10 * z45) = .inr (10, [.ref (ad (20 + z44) (15 + 10 * z45))]) := (p_341 (20 + z44) (12 + 10 * z45) (by omega)).trans c_313
              have c_366 : E338 (20 + z44) (13 + 10 * z45) = .inr (10, [.ref (ad (20 + z44) (16 + 10 * z45))]) := (p_341 (20 + z44) (13 + 10 * z45) (by omega)).trans c_314
              have c_367 : E338 (20 + z44) (14 + 10 * z45) = .inr (10, [.ref (ad (20 + z44) (17 + 10 * z45))]) := (p_341 (20 + z44) (14 + 10 * z45) (by omega)).trans c_315
              have c_368 : E338 (20 + z44) (15 + 10 * z45) = .inl (kA 0, 6, .inl g2_185) := (p_341 (20 + z44) (15 + 10 * z45) (by omega)).trans c_316
              have c_369 : E338 (20 + z44) (16 + 10 * z45) = .inl (kA 0, 6, .inl g3_185) := (p_341 (20 + z44) (16 + 10 * z45) (by omega)).trans c_317
              have c_370 : E338 (20 + z44) (17 + 10 * z45) = .inl (kA 0, 6, .inl g4_185) := (p_341 (20 + z44) (17 + 10 * z45) (by omega)).trans c_318
              have c_371 : E338 (20 + z44) 0 = .inr (5, [.int (nI z44), pv_202, .ref (ad (20 + z44) 1), .int op_202]) := (p_341 (20 + z44) 0 (by omega)).trans c_319
              have c_372 : E338 (20 + z44) 1 = .inl (kA 6, mk_202, .inr (.inr (.inr (.inr fm_202)))) := (p_341 (20 + z44) 1 (by omega)).trans c_320
              have c_373 : E338 (1 + d_185) 0 = .inr (7, [.int (nI d_185), .int fd_207, .int nm_207, .ref (ad (1 + d_185) 1), .ref (ad (1 + d_185) 9), .ref (ad (1 + d_185) 10), .ref (ad (1 + d_185) 2), .ref (ad (1 + d_185) 11), .ref (ad (1 + d_185) 12), .ref (ad (1 + d_185) 3), .ref (ad (1 + d_185) 4), .int sd_207]) := (p_341 (1 + d_185) 0 (by omega)).trans c_321
              have c_374 : E338 (1 + d_185) 1 = .inr (8, [.ref (ad (1 + d_185) 5), .int (nI k0_207)]) := (p_341 (1 + d_185) 1 (by omega)).trans c_322
              have c_375 : E338 (1 + d_185) 2 = .inr (8, [.ref (ad (1 + d_185) 6), .int (nI k1_207)]) := (p_341 (1 + d_185) 2 (by omega)).trans c_323
              have c_376 : E338 (1 + d_185) 3 = .inr (8, [.ref (ad (1 + d_185) 7), .int (nI k2_207)]) := (p_341 (1 + d_185) 3 (by omega)).trans c_324
              have c_377 : E338 (1 + d_185) 4 = .inr (8, [.ref (ad (1 + d_185) 8), .int (nI k3_207)]) := (p_341 (1 + d_185) 4 (by omega)).trans c_325
              have c_378 : E338 (1 + d_185) 5 = .inl (kA 0, 6, .inl f0_207) := (p_341 (1 + d_185) 5 (by omega)).trans c_326
              have c_379 : E338 (1 + d_185) 6 = .inl (kA 0, 5, .inl f1_207) := (p_341 (1 + d_185) 6 (by omega)).trans c_327
              have c_380 : E338 (1 + d_185) 7 = .inl (kA 0, 3, .inl f2_207) := (p_341 (1 + d_185) 7 (by omega)).trans c_328
              have c_381 : E338 (1 + d_185) 8 = .inl (kA 0, 3, .inl f3_207) := (p_341 (1 + d_185) 8 (by omega)).trans c_329
              have c_382 : E338 (1 + d_185) 9 = .inl (kA 8, 6, .inr (.inr (.inr (.inr fe_207)))) := (p_341 (1 + d_185) 9 (by omega)).trans c_330
              have c_383 : E338 (1 + d_185) 10 = .inl (kA 8, 6, .inr (.inr (.inr (.inr fo_207)))) := (p_341 (1 + d_185) 10 (by omega)).trans c_331
              have c_384 : E338 (1 + d_185) 11 = .inl (kA 2, 5, .inl tr_207) := (p_341 (1 + d_185) 11 (by omega)).trans c_332
              have c_385 : E338 (1 + d_185) 12 = .inl (kA 2, 5, .inl op_207) := (p_341 (1 + d_185) 12 (by omega)).trans c_333
              have hP : va_P D xcl (rp ad E338 RL) H := hP
              have hD : va_D A (rp ad E338 RL) := hD
              refine lv_iinc (k := 1) (x := (nI i)) (v := (nI (i + 1))) hx hb xd_Me_takeFirstSteps_107 hl rfl (xb_inc i 1) (Nat.le_of_ble_eq_true rfl) rfl (fun ls hl => ?_)
              have hl : lv_has ls 3 [(1, .int (nI (i + 1))), (2, .ref (ad (20 + z44) (10 + 10 * z45))), (0, .ref (ad (20 + n) (10 + 10 * k)))] := hl
              refine lv_goto (tgt := 2) hx hb xd_Me_takeFirstSteps_110 (by decide) ?_
              exact ih1 (i + 1, E338, (va_up fr1 i (some (ad (20 + z44) (10 + 10 * z45)))), ga1, w339) _ _ _ (show rs - (i + 1) < rs - i by omega) (lv_sub hl [0, 2] rfl) hP hD hS ⟨(show (i + 1) ≤ rs from by first | assumption | omega), (show E338 (20 + n) (11 + 10 * k) = .inl (kA 6, rs, .inr (.inr (.inr (.inr (va_up fr1 i (some (ad (20 + z44) (10 + 10 * z45)))))))) from c_343), (show E338 (20 + n) (15 + 10 * k) = .inl (kA 0, 6, .inl ga1) from c_344), (show E338 (20 + n) (16 + 10 * k) = .inl (kA 0, 6, .inl w339) from p_340), (show ∀ b2 o2, ¬ (b2 = 20 + n ∧ o2 = 11 + 10 * k) → ¬ (b2 = 20 + n ∧ o2 = 15 + 10 * k) → ¬ (b2 = 20 + n ∧ o2 = 16 + 10 * k) → E338 b2 o2 = E b2 o2 from fun b2 o2 h09 h19 h29 => by rw [p_341 b2 o2 (by omega), p_289 b2 o2 (by omega), fE236 b2 o2 (by omega), hfr b2 o2 (by omega) (by omega) (by omega)]), (show RQ kA ad E338 RL nd n (i + 1) (va_up fr1 i (some (ad (20 + z44) (10 + 10 * z45)))) from RQ_RU (RU3 (b := 20 + n) (by omega) hc1 hc5 hc6 c_343 c_344 p_340 (fun b2 o2 h19 h29 h39 => by rw [p_341 b2 o2 (by omega), p_289 b2 o2 (by omega), fE236 b2 o2 (by omega)])) (RQ_add hRQ (by omega) z47))⟩
        · refine lv_aload_n hx hb xd_Me_takeFirstSteps_53 rfl (lv_at hl 2 rfl) ?_
          refine px_get (D := D) (ci := 6) (v := .ref (ad (20 + n) (12 + 10 * k))) (C := xR_Me) (T := xT_Me) (N := 6) hx hb hT xi_Me hown hK.1 hP ym0 c_240 rfl 3 (by decide) (hT _ ys3_22) (fun _ h9 => h9) rfl xd_Me_takeFirstSteps_54 ?_
          refine lv_aload_n hx hb xd_Me_takeFirstSteps_57 rfl (lv_at hl 0 rfl) ?_
          have hFc := px_free hD hS hA
          refine va_callv (va_runV (As := [.ref (ad (20 + z44) (10 + 10 * z45))]) (rest := []) ⟨hx, hb, hml, hown, hT⟩ (xc_Re_mark l D kA H.size ad E234 RL (20 + n) (12 + 10 * k) (15 + 10 * k) ga1 z44 z45 d_185 pv_202 op_202 fd_207 nm_207 sd_207 ym2 c_241 ym4 c_238 m_187 c_258 m_204 c_266 m_209 c_268 (by first | assumption | omega) (by first | assumption | omega) (by first | assumption | omega)) (cwV 1 hT (wT_V ys3_18 ys3_19 ys3_20 ys3_21 ys3_17) rfl rfl rfl (by decide +kernel) ⟨Nat.le_of_ble_eq_true rfl, Nat.le_of_ble_eq_true rfl⟩) (px_preV hK hP hD ym2 c_241 rfl) rfl rfl hl.1 rfl (lv_room (Nat.le_of_ble_eq_true rfl)) xd_Me_takeFirstSteps_58 ⟨(Nat.le_of_ble_eq_true rfl), (Nat.le_of_ble_eq_true rfl)⟩) hS (fun q _ h => hFc q h) hFc (fun u387 t H1 locs ht hvm hp388 hB hz1 hk1 hS => ?_)
          obtain ⟨hP1, hD1⟩ := hB
          rw [ht] at hP1
          have hD1 := hD1.weaken (fun _ _ _ h => hFc _ h)
          generalize H1 = H at hP1 hS ⊢
          have hP := hP1
          have hD := hD1
          obtain ⟨E389, rfl⟩ : ∃ z, z = u387 := ⟨_, rfl⟩
          obtain ⟨w390, hp393, p_391, p_392⟩ := hp388
          have p_391 : E389 (20 + n) (15 + 10 * k) = .inl (kA 0, 6, .inl w390) := p_391
          have p_392 : (∀ b2 o2, ¬ (b2 = (20 + n) ∧ o2 = (15 + 10 * k)) → E389 b2 o2 = E234 b2 o2) := p_392
          have c_394 : E389 (20 + n) (11 + 10 * k) = .inl (kA 6, rs, .inr (.inr (.inr (.inr (va_up fr1 i (some (ad (20 + z44) (10 + 10 * z45)))))))) := (p_392 (20 + n) (11 + 10 * k) (by omega)).trans c_237
          have c_395 : E389 (20 + n) (16 + 10 * k) = .inl (kA 0, 6, .inl gb1) := (p_392 (20 + n) (16 + 10 * k) (by omega)).trans c_239
          have c_396 : E389 (20 + n) (10 + 10 * k) = .inr (6, [.ref (ad (20 + n) 0), .ref (ad (1 + d) 0), .ref (ad (20 + n) (11 + 10 * k)), .ref (ad (20 + n) (12 + 10 * k)), .ref (ad (20 + n) (13 + 10 * k)), .ref (ad (20 + n) (14 + 10 * k))]) := (p_392 (20 + n) (10 + 10 * k) (by omega)).trans c_240
          have c_397 : E389 (20 + n) (12 + 10 * k) = .inr (10, [.ref (ad (20 + n) (15 + 10 * k))]) := (p_392 (20 + n) (12 + 10 * k) (by omega)).trans c_241
          have c_398 : E389 (20 + n) (13 + 10 * k) = .inr (10, [.ref (ad (20 + n) (16 + 10 * k))]) := (p_392 (20 + n) (13 + 10 * k) (by omega)).trans c_242
          have c_399 : E389 (1 + d) 0 = .inr (7, [.int (nI d), .int fd_6, .int nm_6, .ref (ad (1 + d) 1), .ref (ad (1 + d) 9), .ref (ad (1 + d) 10), .ref (ad (1 + d) 2), .ref (ad (1 + d) 11), .ref (ad (1 + d) 12), .ref (ad (1 + d) 3), .ref (ad (1 + d) 4), .int sd_6]) := (p_392 (1 + d) 0 (by omega)).trans c_243
          have c_400 : E389 (1 + d) 1 = .inr (8, [.ref (ad (1 + d) 5), .int (nI k0_6)]) := (p_392 (1 + d) 1 (by omega)).trans c_244
          have c_401 : E389 (1 + d) 2 = .inr (8, [.ref (ad (1 + d) 6), .int (nI k1_6)]) := (p_392 (1 + d) 2 (by omega)).trans c_245
          have c_402 : E389 (1 + d) 3 = .inr (8, [.ref (ad (1 + d) 7), .int (nI k2_6)]) := (p_392 (1 + d) 3 (by omega)).trans c_246
          have c_403 : E389 (1 + d) 4 = .inr (8, [.ref (ad (1 + d) 8), .int (nI k3_6)]) := (p_392 (1 + d) 4 (by omega)).trans c_247
          have c_404 : E389 (1 + d) 5 = .inl (kA 0, 6, .inl f0_6) := (p_392 (1 + d) 5 (by omega)).trans c_248
          have c_405 : E389 (1 + d) 6 = .inl (kA 0, 5, .inl f1_6) := (p_392 (1 + d) 6 (by omega)).trans c_249
          have c_406 : E389 (1 + d) 7 = .inl (kA 0, 3, .inl f2_6) := (p_392 (1 + d) 7 (by omega)).trans c_250
          have c_407 : E389 (1 + d) 8 = .inl (kA 0, 3, .inl f3_6) := (p_392 (1 + d) 8 (by omega)).trans c_251
          have c_408 : E389 (1 + d) 9 = .inl (kA 8, 6, .inr (.inr (.inr (.inr fe_6)))) := (p_392 (1 + d) 9 (by omega)).trans c_252
          have c_409 : E389 (1 + d) 10 = .inl (kA 8, 6, .inr (.inr (.inr (.inr fo_6)))) := (p_392 (1 + d) 10 (by omega)).trans c_253
          have c_410 : E389 (1 + d) 11 = .inl (kA 2, 5, .inl tr_6) := (p_392 (1 + d) 11 (by omega)).trans c_254
          have c_411 : E389 (1 + d) 12 = .inl (kA 2, 5, .inl op_6) := (p_392 (1 + d) 12 (by omega)).trans c_255
          have c_412 : E389 (20 + n) 0 = .inr (5, [.int (nI n), pv_36, .ref (ad (20 + n) 1), .int op_36]) := (p_392 (20 + n) 0 (by omega)).trans c_256
          have c_413 : E389 (20 + n) 1 = .inl (kA 6, mk_36, .inr (.inr (.inr (.inr fm_36)))) := (p_392 (20 + n) 1 (by omega)).trans c_257
          have c_414 : E389 (20 + z44) (10 + 10 * z45) = .inr (6, [.ref (ad (20 + z44) 0), .ref (ad (1 + d_185) 0), .ref (ad (20 + z44) (11 + 10 * z45)), .ref (ad (20 + z44) (12 + 10 * z45)), .ref (ad (20 + z44) (13 + 10 * z45)), .ref (ad (20 + z44) (14 + 10 * z45))]) := (p_392 (20 + z44) (10 + 10 * z45) (by omega)).trans c_258
          have c_415 : E389 (20 + z44) (11 + 10 * z45) = .inl (kA 6, rs_185, .inr (.inr (.inr (.inr fr_185)))) := (p_392 (20 + z44) (11 + 10 * z45) (by omega)).trans c_259
          have c_416 : E389 (20 + z44) (12 + 10 * z45) = .inr (10, [.ref (ad (20 + z44) (15 + 10 * z45))]) := (p_392 (20 + z44) (12 + 10 * z45) (by omega)).trans c_260
          have c_417 : E389 (20 + z44) (13 + 10 * z45) = .inr (10, [.ref (ad (20 + z44) (16 + 10 * z45))]) := (p_392 (20 + z44) (13 + 10 * z45) (by omega)).trans c_261
          have c_418 : E389 (20 + z44) (14 + 10 * z45) = .inr (10, [.ref (ad (20 + z44) (17 + 10 * z45))]) := (p_392 (20 + z44) (14 + 10 * z45) (by omega)).trans c_262
          have c_419 : E389 (20 + z44) (15 + 10 * z45) = .inl (kA 0, 6, .inl g2_185) := (p_392 (20 + z44) (15 + 10 * z45) (by omega)).trans c_263
          have c_420 : E389 (20 + z44) (16 + 10 * z45) = .inl (kA 0, 6, .inl g3_185) := (p_392 (20 + z44) (16 + 10 * z45) (by omega)).trans c_264
          have c_421 : E389 (20 + z44) (17 + 10 * z45) = .inl (kA 0, 6, .inl g4_185) := (p_392 (20 + z44) (17 + 10 * z45) (by omega)).trans c_265
          have c_422 : E389 (20 + z44) 0 = .inr (5, [.int (nI z44), pv_202, .ref (ad (20 + z44) 1), .int op_202]) := (p_392 (20 + z44) 0 (by omega)).trans c_266
          have c_423 : E389 (20 + z44) 1 = .inl (kA 6, mk_202, .inr (.inr (.inr (.inr fm_202)))) := (p_392 (20 + z44) 1 (by omega)).trans c_267
          have c_424 : E389 (1 + d_185) 0 = .inr (7, [.int (nI d_185), .int fd_207, .int nm_207, .ref (ad (1 + d_185) 1), .ref (ad (1 + d_185) 9), .ref (ad (1 + d_185) 10), .ref (ad (1 + d_185) 2), .ref (ad (1 + d_185) 11), .ref (ad (1 + d_185) 12), .ref (ad (1 + d_185) 3), .ref (ad (1 + d_185) 4), .int sd_207]) := (p_392 (1 + d_185) 0 (by omega)).trans c_268
          have c_425 : E389 (1 + d_185) 1 = .inr (8, [.ref (ad (1 + d_185) 5), .int (nI k0_207)]) := (p_392 (1 + d_185) 1 (by omega)).trans c_269
          have c_426 : E389 (1 + d_185) 2 = .inr (8, [.ref (ad (1 + d_185) 6), .int (nI k1_207)]) := (p_392 (1 + d_185) 2 (by omega)).trans c_270
          have c_427 : E389 (1 + d_185) 3 = .inr (8, [.ref (ad (1 + d_185) 7), .int (nI k2_207)]) := (p_392 (1 + d_185) 3 (by omega)).trans c_271
          have c_428 : E389 (1 + d_185) 4 = .inr (8, [.ref (ad (1 + d_185) 8), .int (nI k3_207)]) := (p_392 (1 + d_185) 4 (by omega)).trans c_272
          have c_429 : E389 (1 + d_185) 5 = .inl (kA 0, 6, .inl f0_207) := (p_392 (1 + d_185) 5 (by omega)).trans c_273
          have c_430 : E389 (1 + d_185) 6 = .inl (kA 0, 5, .inl f1_207) := (p_392 (1 + d_185) 6 (by omega)).trans c_274
          have c_431 : E389 (1 + d_185) 7 = .inl (kA 0, 3, .inl f2_207) := (p_392 (1 + d_185) 7 (by omega)).trans c_275
          have c_432 : E389 (1 + d_185) 8 = .inl (kA 0, 3, .inl f3_207) := (p_392 (1 + d_185) 8 (by omega)).trans c_276
          have c_433 : E389 (1 + d_185) 9 = .inl (kA 8, 6, .inr (.inr (.inr (.inr fe_207)))) := (p_392 (1 + d_185) 9 (by omega)).trans c_277
          have c_434 : E389 (1 + d_185) 10 = .inl (kA 8, 6, .inr (.inr (.inr (.inr fo_207)))) := (p_392 (1 + d_185) 10 (by omega)).trans c_278
          have c_435 : E389 (1 + d_185) 11 = .inl (kA 2, 5, .inl tr_207) := (p_392 (1 + d_185) 11 (by omega)).trans c_279
          have c_436 : E389 (1 + d_185) 12 = .inl (kA 2, 5, .inl op_207) := (p_392 (1 + d_185) 12 (by omega)).trans c_280
          have hP : va_P D xcl (rp ad E389 RL) H := hP
          have hD : va_D A (rp ad E389 RL) := hD
          refine lv_aload_n hx hb xd_Me_takeFirstSteps_61 rfl (lv_at hl 0 rfl) ?_
          refine lv_ifnull hx hb xd_Me_takeFirstSteps_62 ?_
          refine lv_aload_n hx hb xd_Me_takeFirstSteps_65 rfl (lv_at hl 2 rfl) ?_
          refine px_get (D := D) (ci := 6) (v := .ref (ad (1 + d) 0)) (C := xR_Me) (T := xT_Me) (N := 6) hx hb hT xi_Me hown hK.1 hP ym0 c_396 rfl 1 (by decide) (hT _ ys3_2) (fun _ h9 => h9) rfl xd_Me_takeFirstSteps_66 ?_
          refine px_get (D := D) (ci := 7) (v := .ref (ad (1 + d) 11)) (C := xR_Ds) (T := xT_Ds) (N := 12) hx hb hT xi_Ds hown hK.1 hP m_8 c_399 rfl 7 (by decide) (hT _ ys3_15) (fun _ h9 => h9) rfl xd_Me_takeFirstSteps_69 ?_
          refine lv_iload_n hx hb xd_Me_takeFirstSteps_72 rfl (lv_at hl 1 rfl) ?_
          refine px_zald (i := i) hx hb hK.1 hP m_30 c_410 2 rfl (by omega) (by decide) xd_Me_takeFirstSteps_73 ?_
          refine lv_if_eq (tgt := 107) hx hb xd_Me_takeFirstSteps_74 (by decide) (fun hc437 => ?_) (fun hc437 => ?_)
          · refine lv_iinc (k := 1) (x := (nI i)) (v := (nI (i + 1))) hx hb xd_Me_takeFirstSteps_107 hl rfl (xb_inc i 1) (Nat.le_of_ble_eq_true rfl) rfl (fun ls hl => ?_)
            have hl : lv_has ls 3 [(1, .int (nI (i + 1))), (2, .ref (ad (20 + z44) (10 + 10 * z45))), (0, .ref (ad (20 + n) (10 + 10 * k)))] := hl
            refine lv_goto (tgt := 2) hx hb xd_Me_takeFirstSteps_110 (by decide) ?_
            exact ih1 (i + 1, E389, (va_up fr1 i (some (ad (20 + z44) (10 + 10 * z45)))), w390, gb1) _ _ _ (show rs - (i + 1) < rs - i by omega) (lv_sub hl [0, 2] rfl) hP hD hS ⟨(show (i + 1) ≤ rs from by first | assumption | omega), (show E389 (20 + n) (11 + 10 * k) = .inl (kA 6, rs, .inr (.inr (.inr (.inr (va_up fr1 i (some (ad (20 + z44) (10 + 10 * z45)))))))) from c_394), (show E389 (20 + n) (15 + 10 * k) = .inl (kA 0, 6, .inl w390) from p_391), (show E389 (20 + n) (16 + 10 * k) = .inl (kA 0, 6, .inl gb1) from c_395), (show ∀ b2 o2, ¬ (b2 = 20 + n ∧ o2 = 11 + 10 * k) → ¬ (b2 = 20 + n ∧ o2 = 15 + 10 * k) → ¬ (b2 = 20 + n ∧ o2 = 16 + 10 * k) → E389 b2 o2 = E b2 o2 from fun b2 o2 h09 h19 h29 => by rw [p_392 b2 o2 (by omega), fE236 b2 o2 (by omega), hfr b2 o2 (by omega) (by omega) (by omega)]), (show RQ kA ad E389 RL nd n (i + 1) (va_up fr1 i (some (ad (20 + z44) (10 + 10 * z45)))) from RQ_RU (RU3 (b := 20 + n) (by omega) hc1 hc5 hc6 c_394 p_391 c_395 (fun b2 o2 h19 h29 h39 => by rw [p_392 b2 o2 (by omega), fE236 b2 o2 (by omega)])) (RQ_add hRQ (by omega) z47))⟩
          · refine lv_aload_n hx hb xd_Me_takeFirstSteps_77 rfl (lv_at hl 2 rfl) ?_
            refine px_get (D := D) (ci := 6) (v := .ref (ad (20 + n) (13 + 10 * k))) (C := xR_Me) (T := xT_Me) (N := 6) hx hb hT xi_Me hown hK.1 hP ym0 c_396 rfl 4 (by decide) (hT _ ys3_16) (fun _ h9 => h9) rfl xd_Me_takeFirstSteps_78 ?_
            refine lv_aload_n hx hb xd_Me_takeFirstSteps_81 rfl (lv_at hl 0 rfl) ?_
            have hFc := px_free hD hS hA
            refine va_callv (va_runV (As := [.ref (ad (20 + z44) (10 + 10 * z45))]) (rest := []) ⟨hx, hb, hml, hown, hT⟩ (xc_Re_mark l D kA H.size ad E389 RL (20 + n) (13 + 10 * k) (16 + 10 * k) gb1 z44 z45 d_185 pv_202 op_202 fd_207 nm_207 sd_207 ym3 c_398 ym5 c_395 m_187 c_414 m_204 c_422 m_209 c_424 (by first | assumption | omega) (by first | assumption | omega) (by first | assumption | omega)) (cwV 1 hT (wT_V ys3_18 ys3_19 ys3_20 ys3_21 ys3_17) rfl rfl rfl (by decide +kernel) ⟨Nat.le_of_ble_eq_true rfl, Nat.le_of_ble_eq_true rfl⟩) (px_preV hK hP hD ym3 c_398 rfl) rfl rfl hl.1 rfl (lv_room (Nat.le_of_ble_eq_true rfl)) xd_Me_takeFirstSteps_82 ⟨(Nat.le_of_ble_eq_true rfl), (Nat.le_of_ble_eq_true rfl)⟩) hS (fun q _ h => hFc q h) hFc (fun u439 t H1 locs ht hvm hp440 hB hz1 hk1 hS => ?_)
            obtain ⟨hP1, hD1⟩ := hB
            rw [ht] at hP1
            have hD1 := hD1.weaken (fun _ _ _ h => hFc _ h)
            generalize H1 = H at hP1 hS ⊢
            have hP := hP1
            have hD := hD1
            obtain ⟨E441, rfl⟩ : ∃ z, z = u439 := ⟨_, rfl⟩
            obtain ⟨w442, hp445, p_443, p_444⟩ := hp440
            have p_443 : E441 (20 + n) (16 + 10 * k) = .inl (kA 0, 6, .inl w442) := p_443
            have p_444 : (∀ b2 o2, ¬ (b2 = (20 + n) ∧ o2 = (16 + 10 * k)) → E441 b2 o2 = E389 b2 o2) := p_444
            have c_446 : E441 (20 + n) (15 + 10 * k) = .inl (kA 0, 6, .inl w390) := (p_444 (20 + n) (15 + 10 * k) (by omega)).trans p_391
            have c_447 : E441 (20 + n) (11 + 10 * k) = .inl (kA 6, rs, .inr (.inr (.inr (.inr (va_up fr1 i (some (ad (20 + z44) (10 + 10 * z45)))))))) := (p_444 (20 + n) (11 + 10 * k) (by omega)).trans c_394
            have c_448 : E441 (20 + n) (10 + 10 * k) = .inr (6, [.ref (ad (20 + n) 0), .ref (ad (1 + d) 0), .ref (ad (20 + n) (11 + 10 * k)), .ref (ad (20 + n) (12 + 10 * k)), .ref (ad (20 + n) (13 + 10 * k)), .ref (ad (20 + n) (14 + 10 * k))]) := (p_444 (20 + n) (10 + 10 * k) (by omega)).trans c_396
            have c_449 : E441 (20 + n) (12 + 10 * k) = .inr (10, [.ref (ad (20 + n) (15 + 10 * k))]) := (p_444 (20 + n) (12 + 10 * k) (by omega)).trans c_397
            have c_450 : E441 (20 + n) (13 + 10 * k) = .inr (10, [.ref (ad (20 + n) (16 + 10 * k))]) := (p_444 (20 + n) (13 + 10 * k) (by omega)).trans c_398
            have c_451 : E441 (1 + d) 0 = .inr (7, [.int (nI d), .int fd_6, .int nm_6, .ref (ad (1 + d) 1), .ref (ad (1 + d) 9), .ref (ad (1 + d) 10), .ref (ad (1 + d) 2), .ref (ad (1 + d) 11), .ref (ad (1 + d) 12), .ref (ad (1 + d) 3), .ref (ad (1 + d) 4), .int sd_6]) := (p_444 (1 + d) 0 (by omega)).trans c_399
            have c_452 : E441 (1 + d) 1 = .inr (8, [.ref (ad (1 + d) 5), .int (nI k0_6)]) := (p_444 (1 + d) 1 (by omega)).trans c_400
            have c_453 : E441 (1 + d) 2 = .inr (8, [.ref (ad (1 + d) 6), .int (nI k1_6)]) := (p_444 (1 + d) 2 (by omega)).trans c_401
            have c_454 : E441 (1 + d) 3 = .inr (8, [.ref (ad (1 + d) 7), .int (nI k2_6)]) := (p_444 (1 + d) 3 (by omega)).trans c_402
            have c_455 : E441 (1 + d) 4 = .inr (8, [.ref (ad (1 + d) 8), .int (nI k3_6)]) := (p_444 (1 + d) 4 (by omega)).trans c_403
            have c_456 : E441 (1 + d) 5 = .inl (kA 0, 6, .inl f0_6) := (p_444 (1 + d) 5 (by omega)).trans c_404
            have c_457 : E441 (1 + d) 6 = .inl (kA 0, 5, .inl f1_6) := (p_444 (1 + d) 6 (by omega)).trans c_405
            have c_458 : E441 (1 + d) 7 = .inl (kA 0, 3, .inl f2_6) := (p_444 (1 + d) 7 (by omega)).trans c_406
            have c_459 : E441 (1 + d) 8 = .inl (kA 0, 3, .inl f3_6) := (p_444 (1 + d) 8 (by omega)).trans c_407
            have c_460 : E441 (1 + d) 9 = .inl (kA 8, 6, .inr (.inr (.inr (.inr fe_6)))) := (p_444 (1 + d) 9 (by omega)).trans c_408
            have c_461 : E441 (1 + d) 10 = .inl (kA 8, 6, .inr (.inr (.inr (.inr fo_6)))) := (p_444 (1 + d) 10 (by omega)).trans c_409
            have c_462 : E441 (1 + d) 11 = .inl (kA 2, 5, .inl tr_6) := (p_444 (1 + d) 11 (by omega)).trans c_410
            have c_463 : E441 (1 + d) 12 = .inl (kA 2, 5, .inl op_6) := (p_444 (1 + d) 12 (by omega)).trans c_411
            have c_464 : E441 (20 + n) 0 = .inr (5, [.int (nI n), pv_36, .ref (ad (20 + n) 1), .int op_36]) := (p_444 (20 + n) 0 (by omega)).trans c_412
            have c_465 : E441 (20 + n) 1 = .inl (kA 6, mk_36, .inr (.inr (.inr (.inr fm_36)))) := (p_444 (20 + n) 1 (by omega)).trans c_413
            have c_466 : E441 (20 + z44) (10 + 10 * z45) = .inr (6, [.ref (ad (20 + z44) 0), .ref (ad (1 + d_185) 0), .ref (ad (20 + z44) (11 + 10 * z45)), .ref (ad (20 + z44) (12 + 10 * z45)), .ref (ad (20 + z44) (13 + 10 * z45)), .ref (ad (20 + z44) (14 + 10 * z45))]) := (p_444 (20 + z44) (10 + 10 * z45) (by omega)).trans c_414
            have c_467 : E441 (20 + z44) (11 + 10 * z45) = .inl (kA 6, rs_185, .inr (.inr (.inr (.inr fr_185)))) := (p_444 (20 + z44) (11 + 10 * z45) (by omega)).trans c_415
            have c_468 : E441 (20 + z44) (12 + 10 * z45) = .inr (10, [.ref (ad (20 + z44) (15 + 10 * z45))]) := (p_444 (20 + z44) (12 + 10 * z45) (by omega)).trans c_416
            have c_469 : E441 (20 + z44) (13 + 10 * z45) = .inr (10, [.ref (ad (20 + z44) (16 + 10 * z45))]) := (p_444 (20 + z44) (13 + 10 * z45) (by omega)).trans c_417
            have c_470 : E441 (20 + z44) (14 + 10 * z45) = .inr (10, [.ref (ad (20 + z44) (17 + 10 * z45))]) := (p_444 (20 + z44) (14 + 10 * z45) (by omega)).trans c_418
            have c_471 : E441 (20 + z44) (15 + 10 * z45) = .inl (kA 0, 6, .inl g2_185) := (p_444 (20 + z44) (15 + 10 * z45) (by omega)).trans c_419
            have c_472 : E441 (20 + z44) (16 + 10 * z45) = .inl (kA 0, 6, .inl g3_185) := (p_444 (20 + z44) (16 + 10 * z45) (by omega)).trans c_420
            have c_473 : E441 (20 + z44) (17 + 10 * z45) = .inl (kA 0, 6, .inl g4_185) := (p_444 (20 + z44) (17 + 10 * z45) (by omega)).trans c_421
            have c_474 : E441 (20 + z44) 0 = .inr (5, [.int (nI z44), pv_202, .ref (ad (20 + z44) 1), .int op_202]) := (p_444 (20 + z44) 0 (by omega)).trans c_422
            have c_475 : E441 (20 + z44) 1 = .inl (kA 6, mk_202, .inr (.inr (.inr (.inr fm_202)))) := (p_444 (20 + z44) 1 (by omega)).trans c_423
            have c_476 : E441 (1 + d_185) 0 = .inr (7, [.int (nI d_185), .int fd_207, .int nm_207, .ref (ad (1 + d_185) 1), .ref (ad (1 + d_185) 9), .ref (ad (1 + d_185) 10), .ref (ad (1 + d_185) 2), .ref (ad (1 + d_185) 11), .ref (ad (1 + d_185) 12), .ref (ad (1 + d_185) 3), .ref (ad (1 + d_185) 4), .int sd_207]) := (p_444 (1 + d_185) 0 (by omega)).trans c_424
            have c_477 : E441 (1 + d_185) 1 = .inr (8, [.ref (ad (1 + d_185) 5), .int (nI k0_207)]) := (p_444 (1 + d_185) 1 (by omega)).trans c_425
            have c_478 : E441 (1 + d_185) 2 = .inr (8, [.ref (ad (1 + d_185) 6), .int (nI k1_207)]) := (p_444 (1 + d_185) 2 (by omega)).trans c_426
            have c_479 : E441 (1 + d_185) 3 = .inr (8, [.ref (ad (1 + d_185) 7), .int (nI k2_207)]) := (p_444 (1 + d_185) 3 (by omega)).trans c_427
            have c_480 : E441 (1 + d_185) 4 = .inr (8, [.ref (ad (1 + d_185) 8), .int (nI k3_207)]) := (p_444 (1 + d_185) 4 (by omega)).trans c_428
            have c_481 : E441 (1 + d_185) 5 = .inl (kA 0, 6, .inl f0_207) := (p_444 (1 + d_185) 5 (by omega)).trans c_429
            have c_482 : E441 (1 + d_185) 6 = .inl (kA 0, 5, .inl f1_207) := (p_444 (1 + d_185) 6 (by omega)).trans c_430
            have c_483 : E441 (1 + d_185) 7 = .inl (kA 0, 3, .inl f2_207) := (p_444 (1 + d_185) 7 (by omega)).trans c_431
            have c_484 : E441 (1 + d_185) 8 = .inl (kA 0, 3, .inl f3_207) := (p_444 (1 + d_185) 8 (by omega)).trans c_432
            have c_485 : E441 (1 + d_185) 9 = .inl (kA 8, 6, .inr (.inr (.inr (.inr fe_207)))) := (p_444 (1 + d_185) 9 (by omega)).trans c_433
            have c_486 : E441 (1 + d_185) 10 = .inl (kA 8, 6, .inr (.inr (.inr (.inr fo_207)))) := (p_444 (1 + d_185) 10 (by omega)).trans c_434
            have c_487 : E441 (1 + d_185) 11 = .inl (kA 2, 5, .inl tr_207) := (p_444 (1 + d_185) 11 (by omega)).trans c_435
            have c_488 : E441 (1 + d_185) 12 = .inl (kA 2, 5, .inl op_207) := (p_444 (1 + d_185) 12 (by omega)).trans c_436
            have hP : va_P D xcl (rp ad E441 RL) H := hP
            have hD : va_D A (rp ad E441 RL) := hD
            refine lv_aload_n hx hb xd_Me_takeFirstSteps_85 rfl (lv_at hl 0 rfl) ?_
            refine px_get (D := D) (ci := 6) (v := .ref (ad (20 + z44) 0)) (C := xR_Me) (T := xT_Me) (N := 6) hx hb hT xi_Me hown hK.1 hP m_187 c_466 rfl 0 (by decide) (hT _ ys3_1) (fun _ h9 => h9) rfl xd_Me_takeFirstSteps_86 ?_
            refine lv_aload_n hx hb xd_Me_takeFirstSteps_89 rfl (lv_at hl 2 rfl) ?_
            refine px_get (D := D) (ci := 6) (v := .ref (ad (20 + n) 0)) (C := xR_Me) (T := xT_Me) (N := 6) hx hb hT xi_Me hown hK.1 hP ym0 c_448 rfl 0 (by decide) (hT _ ys3_1) (fun _ h9 => h9) rfl xd_Me_takeFirstSteps_90 ?_
            refine lv_acmp_eq (rx := (some (ad (20 + z44) 0))) (ry := (some (ad (20 + n) 0))) (tgt := 107) hx hb xd_Me_takeFirstSteps_93 (by decide) (fun hc489 => ?_) (fun hc489 => ?_)
            · refine lv_iinc (k := 1) (x := (nI i)) (v := (nI (i + 1))) hx hb xd_Me_takeFirstSteps_107 hl rfl (xb_inc i 1) (Nat.le_of_ble_eq_true rfl) rfl (fun ls hl => ?_)
              have hl : lv_has ls 3 [(1, .int (nI (i + 1))), (2, .ref (ad (20 + z44) (10 + 10 * z45))), (0, .ref (ad (20 + n) (10 + 10 * k)))] := hl
              refine lv_goto (tgt := 2) hx hb xd_Me_takeFirstSteps_110 (by decide) ?_
              exact ih1 (i + 1, E441, (va_up fr1 i (some (ad (20 + z44) (10 + 10 * z45)))), w390, w442) _ _ _ (show rs - (i + 1) < rs - i by omega) (lv_sub hl [0, 2] rfl) hP hD hS ⟨(show (i + 1) ≤ rs from by first | assumption | omega), (show E441 (20 + n) (11 + 10 * k) = .inl (kA 6, rs, .inr (.inr (.inr (.inr (va_up fr1 i (some (ad (20 + z44) (10 + 10 * z45)))))))) from c_447), (show E441 (20 + n) (15 + 10 * k) = .inl (kA 0, 6, .inl w390) from c_446), (show E441 (20 + n) (16 + 10 * k) = .inl (kA 0, 6, .inl w442) from p_443), (show ∀ b2 o2, ¬ (b2 = 20 + n ∧ o2 = 11 + 10 * k) → ¬ (b2 = 20 + n ∧ o2 = 15 + 10 * k) → ¬ (b2 = 20 + n ∧ o2 = 16 + 10 * k) → E441 b2 o2 = E b2 o2 from fun b2 o2 h09 h19 h29 => by rw [p_444 b2 o2 (by omega), p_392 b2 o2 (by omega), fE236 b2 o2 (by omega), hfr b2 o2 (by omega) (by omega) (by omega)]), (show RQ kA ad E441 RL nd n (i + 1) (va_up fr1 i (some (ad (20 + z44) (10 + 10 * z45)))) from RQ_RU (RU3 (b := 20 + n) (by omega) hc1 hc5 hc6 c_447 c_446 p_443 (fun b2 o2 h19 h29 h39 => by rw [p_444 b2 o2 (by omega), p_392 b2 o2 (by omega), fE236 b2 o2 (by omega)])) (RQ_add hRQ (by omega) z47))⟩
            · have hxn : ¬ z44 = n := fun e9 => hc489 (by rw [e9])
              refine lv_aload_n hx hb xd_Me_takeFirstSteps_96 rfl (lv_at hl 2 rfl) ?_
              refine px_get (D := D) (ci := 6) (v := .ref (ad (20 + n) (13 + 10 * k))) (C := xR_Me) (T := xT_Me) (N := 6) hx hb hT xi_Me hown hK.1 hP ym0 c_448 rfl 4 (by decide) (hT _ ys3_16) (fun _ h9 => h9) rfl xd_Me_takeFirstSteps_97 ?_
              refine lv_aload_n hx hb xd_Me_takeFirstSteps_100 rfl (lv_at hl 0 rfl) ?_
              refine px_get (D := D) (ci := 6) (v := .ref (ad (20 + z44) (13 + 10 * z45))) (C := xR_Me) (T := xT_Me) (N := 6) hx hb hT xi_Me hown hK.1 hP m_187 c_466 rfl 4 (by decide) (hT _ ys3_16) (fun _ h9 => h9) rfl xd_Me_takeFirstSteps_101 ?_
              have hFc := px_free hD hS hA
              refine va_callv (va_runV (As := [.ref (ad (20 + z44) (13 + 10 * z45))]) (rest := []) ⟨hx, hb, hml, hown, hT⟩ (xc_Re_join l D kA H.size ad E441 RL (20 + n) (13 + 10 * k) (16 + 10 * k) w442 (20 + z44) (13 + 10 * z45) (16 + 10 * z45) g3_185 ym3 c_450 ym5 p_443 m_193 c_469 m_199 c_472 (by first | assumption | omega) (by first | assumption | omega)) (cwV 1 hT (wT_V ys3_24 ys3_25 ys3_26 ys3_21 ys3_23) rfl rfl rfl (by decide +kernel) ⟨Nat.le_of_ble_eq_true rfl, Nat.le_of_ble_eq_true rfl⟩) (px_preV hK hP hD ym3 c_450 rfl) rfl rfl hl.1 rfl (lv_room (Nat.le_of_ble_eq_true rfl)) xd_Me_takeFirstSteps_104 ⟨(Nat.le_of_ble_eq_true rfl), (Nat.le_of_ble_eq_true rfl)⟩) hS (fun q _ h => hFc q h) hFc (fun u491 t H1 locs ht hvm hp492 hB hz1 hk1 hS => ?_)
              obtain ⟨hP1, hD1⟩ := hB
              rw [ht] at hP1
              have hD1 := hD1.weaken (fun _ _ _ h => hFc _ h)
              generalize H1 = H at hP1 hS ⊢
              have hP := hP1
              have hD := hD1
              obtain ⟨E493, rfl⟩ : ∃ z, z = u491 := ⟨_, rfl⟩
              obtain ⟨w494, hp497, p_495, p_496⟩ := hp492
              have p_495 : E493 (20 + n) (16 + 10 * k) = .inl (kA 0, 6, .inl w494) := p_495
              have p_496 : (∀ b2 o2, ¬ (b2 = (20 + n) ∧ o2 = (16 + 10 * k)) → E493 b2 o2 = E441 b2 o2) := p_496
              have c_498 : E493 (20 + n) (15 + 10 * k) = .inl (kA 0, 6, .inl w390) := (p_496 (20 + n) (15 + 10 * k) (by omega)).trans c_446
              have c_499 : E493 (20 + n) (11 + 10 * k) = .inl (kA 6, rs, .inr (.inr (.inr (.inr (va_up fr1 i (some (ad (20 + z44) (10 + 10 * z45)))))))) := (p_496 (20 + n) (11 + 10 * k) (by omega)).trans c_447
              have c_500 : E493 (20 + n) (10 + 10 * k) = .inr (6, [.ref (ad (20 + n) 0), .ref (ad (1 + d) 0), .ref (ad (20 + n) (11 + 10 * k)), .ref (ad (20 + n) (12 + 10 * k)), .ref (ad (20 + n) (13 + 10 * k)), .ref (ad (20 + n) (14 + 10 * k))]) := (p_496 (20 + n) (10 + 10 * k) (by omega)).trans c_448
              have c_501 : E493 (20 + n) (12 + 10 * k) = .inr (10, [.ref (ad (20 + n) (15 + 10 * k))]) := (p_496 (20 + n) (12 + 10 * k) (by omega)).trans c_449
              have c_502 : E493 (20 + n) (13 + 10 * k) = .inr (10, [.ref (ad (20 + n) (16 + 10 * k))]) := (p_496 (20 + n) (13 + 10 * k) (by omega)).trans c_450
              have c_503 : E493 (1 + d) 0 = .inr (7, [.int (nI d), .int fd_6, .int nm_6, .ref (ad (1 + d) 1), .ref (ad (1 + d) 9), .ref (ad (1 + d) 10), .ref (ad (1 + d) 2), .ref (ad (1 + d) 11), .ref (ad (1 + d) 12), .ref (ad (1 + d) 3), .ref (ad (1 + d) 4), .int sd_6]) := (p_496 (1 + d) 0 (by omega)).trans c_451
              have c_504 : E493 (1 + d) 1 = .inr (8, [.ref (ad (1 + d) 5), .int (nI k0_6)]) := (p_496 (1 + d) 1 (by omega)).trans c_452
              have c_505 : E493 (1 + d) 2 = .inr (8, [.ref (ad (1 + d) 6), .int (nI k1_6)]) := (p_496 (1 + d) 2 (by omega)).trans c_453
              have c_506 : E493 (1 + d) 3 = .inr (8, [.ref (ad (1 + d) 7), .int (nI k2_6)]) := (p_496 (1 + d) 3 (by omega)).trans c_454
              have c_507 : E493 (1 + d) 4 = .inr (8, [.ref (ad (1 + d) 8), .int (nI k3_6)]) := (p_496 (1 + d) 4 (by omega)).trans c_455
              have c_508 : E493 (1 + d) 5 = .inl (kA 0, 6, .inl f0_6) := (p_496 (1 + d) 5 (by omega)).trans c_456
              have c_509 : E493 (1 + d) 6 = .inl (kA 0, 5, .inl f1_6) := (p_496 (1 + d) 6 (by omega)).trans c_457
              have c_510 : E493 (1 + d) 7 = .inl (kA 0, 3, .inl f2_6) := (p_496 (1 + d) 7 (by omega)).trans c_458
              have c_511 : E493 (1 + d) 8 = .inl (kA 0, 3, .inl f3_6) := (p_496 (1 + d) 8 (by omega)).trans c_459
              have c_512 : E493 (1 + d) 9 = .inl (kA 8, 6, .inr (.inr (.inr (.inr fe_6)))) := (p_496 (1 + d) 9 (by omega)).trans c_460
              have c_513 : E493 (1 + d) 10 = .inl (kA 8, 6, .inr (.inr (.inr (.inr fo_6)))) := (p_496 (1 + d) 10 (by omega)).trans c_461
              have c_514 : E493 (1 + d) 11 = .inl (kA 2, 5, .inl tr_6) := (p_496 (1 + d) 11 (by omega)).trans c_462
              have c_515 : E493 (1 + d) 12 = .inl (kA 2, 5, .inl op_6) := (p_496 (1 + d) 12 (by omega)).trans c_463
              have c_516 : E493 (20 + n) 0 = .inr (5, [.int (nI n), pv_36, .ref (ad (20 + n) 1), .int op_36]) := (p_496 (20 + n) 0 (by omega)).trans c_464
              have c_517 : E493 (20 + n) 1 = .inl (kA 6, mk_36, .inr (.inr (.inr (.inr fm_36)))) := (p_496 (20 + n) 1 (by omega)).trans c_465
              have c_518 : E493 (20 + z44) (10 + 10 * z45) = .inr (6, [.ref (ad (20 + z44) 0), .ref (ad (1 + d_185) 0), .ref (ad (20 + z44) (11 + 10 * z45)), .ref (ad (20 + z44) (12 + 10 * z45)), .ref (ad (20 + z44) (13 + 10 * z45)), .ref (ad (20 + z44) (14 + 10 * z45))]) := (p_496 (20 + z44) (10 + 10 * z45) (by omega)).trans c_466
              have c_519 : E493 (20 + z44) (11 + 10 * z45) = .inl (kA 6, rs_185, .inr (.inr (.inr (.inr fr_185)))) := (p_496 (20 + z44) (11 + 10 * z45) (by omega)).trans c_467
              have c_520 : E493 (20 + z44) (12 + 10 * z45) = .inr (10, [.ref (ad (20 + z44) (15 + 10 * z45))]) := (p_496 (20 + z44) (12 + 10 * z45) (by omega)).trans c_468
              have c_521 : E493 (20 + z44) (13 + 10 * z45) = .inr (10, [.ref (ad (20 + z44) (16 + 10 * z45))]) := (p_496 (20 + z44) (13 + 10 * z45) (by omega)).trans c_469
              have c_522 : E493 (20 + z44) (14 + 10 * z45) = .inr (10, [.ref (ad (20 + z44) (17 + 10 * z45))]) := (p_496 (20 + z44) (14 + 10 * z45) (by omega)).trans c_470
              have c_523 : E493 (20 + z44) (15 + 10 * z45) = .inl (kA 0, 6, .inl g2_185) := (p_496 (20 + z44) (15 + 10 * z45) (by omega)).trans c_471
              have c_524 : E493 (20 + z44) (16 + 10 * z45) = .inl (kA 0, 6, .inl g3_185) := (p_496 (20 + z44) (16 + 10 * z45) (by omega)).trans c_472
              have c_525 : E493 (20 + z44) (17 + 10 * z45) = .inl (kA 0, 6, .inl g4_185) := (p_496 (20 + z44) (17 + 10 * z45) (by omega)).trans c_473
              have c_526 : E493 (20 + z44) 0 = .inr (5, [.int (nI z44), pv_202, .ref (ad (20 + z44) 1), .int op_202]) := (p_496 (20 + z44) 0 (by omega)).trans c_474
              have c_527 : E493 (20 + z44) 1 = .inl (kA 6, mk_202, .inr (.inr (.inr (.inr fm_202)))) := (p_496 (20 + z44) 1 (by omega)).trans c_475
              have c_528 : E493 (1 + d_185) 0 = .inr (7, [.int (nI d_185), .int fd_207, .int nm_207, .ref (ad (1 + d_185) 1), .ref (ad (1 + d_185) 9), .ref (ad (1 + d_185) 10), .ref (ad (1 + d_185) 2), .ref (ad (1 + d_185) 11), .ref (ad (1 + d_185) 12), .ref (ad (1 + d_185) 3), .ref (ad (1 + d_185) 4), .int sd_207]) := (p_496 (1 + d_185) 0 (by omega)).trans c_476
              have c_529 : E493 (1 + d_185) 1 = .inr (8, [.ref (ad (1 + d_185) 5), .int (nI k0_207)]) := (p_496 (1 + d_185) 1 (by omega)).trans c_477
              have c_530 : E493 (1 + d_185) 2 = .inr (8, [.ref (ad (1 + d_185) 6), .int (nI k1_207)]) := (p_496 (1 + d_185) 2 (by omega)).trans c_478
              have c_531 : E493 (1 + d_185) 3 = .inr (8, [.ref (ad (1 + d_185) 7), .int (nI k2_207)]) := (p_496 (1 + d_185) 3 (by omega)).trans c_479
              have c_532 : E493 (1 + d_185) 4 = .inr (8, [.ref (ad (1 + d_185) 8), .int (nI k3_207)]) := (p_496 (1 + d_185) 4 (by omega)).trans c_480
              have c_533 : E493 (1 + d_185) 5 = .inl (kA 0, 6, .inl f0_207) := (p_496 (1 + d_185) 5 (by omega)).trans c_481
              have c_534 : E493 (1 + d_185) 6 = .inl (kA 0, 5, .inl f1_207) := (p_496 (1 + d_185) 6 (by omega)).trans c_482
              have c_535 : E493 (1 + d_185) 7 = .inl (kA 0, 3, .inl f2_207) := (p_496 (1 + d_185) 7 (by omega)).trans c_483
              have c_536 : E493 (1 + d_185) 8 = .inl (kA 0, 3, .inl f3_207) := (p_496 (1 + d_185) 8 (by omega)).trans c_484
              have c_537 : E493 (1 + d_185) 9 = .inl (kA 8, 6, .inr (.inr (.inr (.inr fe_207)))) := (p_496 (1 + d_185) 9 (by omega)).trans c_485
              have c_538 : E493 (1 + d_185) 10 = .inl (kA 8, 6, .inr (.inr (.inr (.inr fo_207)))) := (p_496 (1 + d_185) 10 (by omega)).trans c_486
              have c_539 : E493 (1 + d_185) 11 = .inl (kA 2, 5, .inl tr_207) := (p_496 (1 + d_185) 11 (by omega)).trans c_487
              have c_540 : E493 (1 + d_185) 12 = .inl (kA 2, 5, .inl op_207) := (p_496 (1 + d_185) 12 (by omega)).trans c_488
              have hP : va_P D xcl (rp ad E493 RL) H := hP
              have hD : va_D A (rp ad E493 RL) := hD
              refine lv_iinc (k := 1) (x := (nI i)) (v := (nI (i + 1))) hx hb xd_Me_takeFirstSteps_107 hl rfl (xb_inc i 1) (Nat.le_of_ble_eq_true rfl) rfl (fun ls hl => ?_)
              have hl : lv_has ls 3 [(1, .int (nI (i + 1))), (2, .ref (ad (20 + z44) (10 + 10 * z45))), (0, .ref (ad (20 + n) (10 + 10 * k)))] := hl
              refine lv_goto (tgt := 2) hx hb xd_Me_takeFirstSteps_110 (by decide) ?_
              exact ih1 (i + 1, E493, (va_up fr1 i (some (ad (20 + z44) (10 + 10 * z45)))), w390, w494) _ _ _ (show rs - (i + 1) < rs - i by omega) (lv_sub hl [0, 2] rfl) hP hD hS ⟨(show (i + 1) ≤ rs from by first | assumption | omega), (show E493 (20 + n) (11 + 10 * k) = .inl (kA 6, rs, .inr (.inr (.inr (.inr (va_up fr1 i (some (ad (20 + z44) (10 + 10 * z45)))))))) from c_499), (show E493 (20 + n) (15 + 10 * k) = .inl (kA 0, 6, .inl w390) from c_498), (show E493 (20 + n) (16 + 10 * k) = .inl (kA 0, 6, .inl w494) from p_495), (show ∀ b2 o2, ¬ (b2 = 20 + n ∧ o2 = 11 + 10 * k) → ¬ (b2 = 20 + n ∧ o2 = 15 + 10 * k) → ¬ (b2 = 20 + n ∧ o2 = 16 + 10 * k) → E493 b2 o2 = E b2 o2 from fun b2 o2 h09 h19 h29 => by rw [p_496 b2 o2 (by omega), p_444 b2 o2 (by omega), p_392 b2 o2 (by omega), fE236 b2 o2 (by omega), hfr b2 o2 (by omega) (by omega) (by omega)]), (show RQ kA ad E493 RL nd n (i + 1) (va_up fr1 i (some (ad (20 + z44) (10 + 10 * z45)))) from RQ_RU (RU3 (b := 20 + n) (by omega) hc1 hc5 hc6 c_499 c_498 p_495 (fun b2 o2 h19 h29 h39 => by rw [p_496 b2 o2 (by omega), p_444 b2 o2 (by omega), p_392 b2 o2 (by omega), fE236 b2 o2 (by omega)])) (RQ_add hRQ (by omega) z47))⟩
set_option maxHeartbeats 4000000 in
set_option maxRecDepth 100000 in
theorem xc_Me_settleReading (l : Launch) (D : va_G) (kA : Nat → ClassId) (sz : Nat) (ad : Nat → Nat → Nat) (E : Nat → Nat → va_E) (RL : List (Nat × Nat)) (nd : Nat) (nL : Nat) (n : Nat) (k : Nat) (d : Nat) (rs : Nat) (fr : Nat → Option Nat) (gc : Nat → Int32) (gb : Nat → Int32) (ym0 : (20 + n, 10 + 10 * k) ∈ RL) (yc0 : E (20 + n) (10 + 10 * k) = .inr (6, [.ref (ad (20 + n) 0), .ref (ad (1 + d) 0), .ref (ad (20 + n) (11 + 10 * k)), .ref (ad (20 + n) (12 + 10 * k)), .ref (ad (20 + n) (13 + 10 * k)), .ref (ad (20 + n) (14 + 10 * k))])) (ym1 : (20 + n, 11 + 10 * k) ∈ RL) (yc1 : E (20 + n) (11 + 10 * k) = .inl (kA 6, rs, .inr (.inr (.inr (.inr fr))))) (ym2 : (20 + n, 13 + 10 * k) ∈ RL) (yc2 : E (20 + n) (13 + 10 * k) = .inr (10, [.ref (ad (20 + n) (16 + 10 * k))])) (ym3 : (20 + n, 14 + 10 * k) ∈ RL) (yc3 : E (20 + n) (14 + 10 * k) = .inr (10, [.ref (ad (20 + n) (17 + 10 * k))])) (ym4 : (20 + n, 17 + 10 * k) ∈ RL) (yc4 : E (20 + n) (17 + 10 * k) = .inl (kA 0, 6, .inl gc)) (ym5 : (20 + n, 16 + 10 * k) ∈ RL) (yc5 : E (20 + n) (16 + 10 * k) = .inl (kA 0, 6, .inl gb)) (hDIs : DIs kA ad E RL nd) (hLIs : LIs kA ad E RL nd nL) (hnd12 : nd ≤ 12) (hnL : nL ≤ 6) (hn : n < nL) (hd : d < nd) (hrs : rs ≤ 5) (hRQ : RQ kA ad E RL nd n rs fr) : Met l xy_Me_settleReading (.code xy_Me_settleReading xb_Me_settleReading 2 none :: wT) { frames := 1, cells := 0, slots := 0, locals := 22 } (va_Pc [.ref (ad (20 + n) (10 + 10 * k))] (xPre D kA sz (rp ad E RL))) (va_Qv (fun (u : Nat → Nat → va_E) => ∃ gc2 : Nat → Int32, (True) ∧ (u (20 + n) (17 + 10 * k) = .inl (kA 0, 6, .inl gc2)) ∧ ((∀ b2 o2, ¬ (b2 = 20 + n ∧ o2 = 17 + 10 * k) → u b2 o2 = E b2 o2))) (fun (u : Nat → Nat → va_E) t => va_P D xcl (rp ad u RL) t.heap ∧ va_D (va_A (rp ad E RL) sz) (rp ad u RL)) (va_A (rp ad E RL) sz)) 0 0 (va_A (rp ad E RL) sz) := by
  refine Met.ofW (cc := xb_Me_settleReading) (maxL := 2) (ret := none) (by decide) rfl ?_
  intro p e s m args below meth c s₁ B hml hv
  obtain ⟨rfl, hsz, hP, hK, hD0⟩ := hv
  have hx := B.exec
  have hb := B.bytes
  have hr := B.returns
  have hT := x_hT B.pre
  have hown : s.vm.findClass xR_Me = some m.cls := findClass_of_methodNamed B.named
  have hlocks := B.notSynchronized
  subst hsz
  have hD := hD0.self (sz := s.heap.size)
  generalize hAe : va_A (rp ad E RL) s.heap.size = A at hD ⊢
  have hA : ∀ q : Nat, s.heap.size ≤ q → A q := fun q h => by rw [← hAe]; exact Or.inr h
  have hS : va_S A s.heap s.heap [] := va_S.rf
  have hl := lv_entry ([.ref (ad (20 + n) (10 + 10 * k))]) (n := 2) (Nat.le_of_ble_eq_true rfl)
  rw [lg_entry_eq]
  generalize (lg_sl ([.ref (ad (20 + n) (10 + 10 * k))]) ++ List.replicate (2 - (lg_sl ([.ref (ad (20 + n) (10 + 10 * k))])).length) Slot.unset).toArray = ls at hl ⊢
  have hl : lv_has ls 2 [(0, .ref (ad (20 + n) (10 + 10 * k)))] := hl
  have hP : va_P D xcl (rp ad E RL) s.heap := hP
  have hDIs0 := hDIs
  have hLIs0 := hLIs
  refine lv_iconst (v := 0) hx hb xd_Me_settleReading_0 (by decide) ?_
  refine lv_istore_n hx hb xd_Me_settleReading_1 rfl hl (Nat.le_of_ble_eq_true rfl) rfl (fun ls hl => ?_)
  have hl : lv_has ls 2 [(1, .int 0), (0, .ref (ad (20 + n) (10 + 10 * k)))] := hl
  refine xlab (σ := Nat × (Nat → Nat → va_E) × (Nat → Int32)) (ml := 2) 2 (fun (i, E1, gc1) => [(1, .int (nI i)), (0, .ref (ad (20 + n) (10 + 10 * k)))]) (fun (i, E1, gc1) => []) (fun (i, E1, gc1) => rp ad E1 RL) (fun (i, E1, gc1) => (i ≤ rs) ∧ (E1 (20 + n) (17 + 10 * k) = .inl (kA 0, 6, .inl gc1)) ∧ (∀ b2 o2, ¬ (b2 = 20 + n ∧ o2 = 17 + 10 * k) → E1 b2 o2 = E b2 o2)) (fun (i, E1, gc1) => rs - i) ?_ (0, E, gc) _ _ _ (lv_sub hl [0, 1] rfl) hP hD hS ⟨(show 0 ≤ rs from by first | assumption | omega), (show E (20 + n) (17 + 10 * k) = .inl (kA 0, 6, .inl gc) from yc4), (show ∀ b2 o2, ¬ (b2 = 20 + n ∧ o2 = 17 + 10 * k) → E b2 o2 = E b2 o2 from fun b2 o2 h09 => rfl)⟩
  intro n9 ih1 a9 ls H locs hμ hl hP hD hS hI
  subst hμ
  obtain ⟨i, E1, gc1⟩ := a9
  obtain ⟨hi, hc7, hfr⟩ := hI
  have hi : i ≤ rs := hi
  have hc7 : E1 (20 + n) (17 + 10 * k) = .inl (kA 0, 6, .inl gc1) := hc7
  have hfr : ∀ b2 o2, ¬ (b2 = 20 + n ∧ o2 = 17 + 10 * k) → E1 b2 o2 = E b2 o2 := hfr
  have hl : lv_has ls 2 [(1, .int (nI i)), (0, .ref (ad (20 + n) (10 + 10 * k)))] := hl
  have hP : va_P D xcl (rp ad E1 RL) H := hP
  have hD : va_D A (rp ad E1 RL) := hD
  have hRU : RU kA E E1 := (RI.row yc4 hc7 hfr).ru
  have hDIs := DIs_RU hRU hnd12 hDIs0
  have hLIs := LIs_RU hRU hLIs0
  have c_2 : E1 (20 + n) (10 + 10 * k) = .inr (6, [.ref (ad (20 + n) 0), .ref (ad (1 + d) 0), .ref (ad (20 + n) (11 + 10 * k)), .ref (ad (20 + n) (12 + 10 * k)), .ref (ad (20 + n) (13 + 10 * k)), .ref (ad (20 + n) (14 + 10 * k))]) := (hfr (20 + n) (10 + 10 * k) (by omega)).trans yc0
  have c_3 : E1 (20 + n) (11 + 10 * k) = .inl (kA 6, rs, .inr (.inr (.inr (.inr fr)))) := (hfr (20 + n) (11 + 10 * k) (by omega)).trans yc1
  have c_4 : E1 (20 + n) (13 + 10 * k) = .inr (10, [.ref (ad (20 + n) (16 + 10 * k))]) := (hfr (20 + n) (13 + 10 * k) (by omega)).trans yc2
  have c_5 : E1 (20 + n) (14 + 10 * k) = .inr (10, [.ref (ad (20 + n) (17 + 10 * k))]) := (hfr (20 + n) (14 + 10 * k) (by omega)).trans yc3
  have c_6 : E1 (20 + n) (16 + 10 * k) = .inl (kA 0, 6, .inl gb) := (hfr (20 + n) (16 + 10 * k) (by omega)).trans yc5
  refine lv_iload_n hx hb xd_Me_settleReading_2 rfl (lv_at hl 0 rfl) ?_
  refine lv_aload_n hx hb xd_Me_settleReading_3 rfl (lv_at hl 1 rfl) ?_
  refine px_get (D := D) (ci := 6) (v := .ref (ad (20 + n) (11 + 10 * k))) (C := xR_Me) (T := xT_Me) (N := 6) hx hb hT xi_Me hown hK.1 hP ym0 c_2 rfl 2 (by decide) (hT _ ys3_0) (fun _ h9 => h9) rfl xd_Me_settleReading_4 ?_
  refine px_alen hx hb hK.1 hP ym1 c_3 6 rfl xd_Me_settleReading_7 ?_
  refine W.eq (g2 := F0 m 8 ls [.int (nI rs), .int (nI i)]) rfl ?_
  refine xn_ge (a := i) (b := rs) (tgt := 55) hx hb xd_Me_settleReading_8 (by decide) (by omega) (by omega) (fun hc7 => ?_) (fun hc7 => ?_)
  · obtain ⟨m0_8, m1_8, pv_8, op_8, mk_8, fm_8, hmk_8, hpv_8, q0_8, q1_8, hk_8⟩ := id (hLIs n (by omega))
    have c_9 : E1 (20 + n) 0 = .inr (5, [.int (nI n), pv_8, .ref (ad (20 + n) 1), .int op_8]) := q0_8
    have m_10 : (20 + n, 0) ∈ RL := m0_8
    have c_11 : E1 (20 + n) 1 = .inl (kA 6, mk_8, .inr (.inr (.inr (.inr fm_8)))) := q1_8
    have m_12 : (20 + n, 1) ∈ RL := m1_8
    obtain ⟨hm_13, fd_13, nm_13, sd_13, k0_13, k1_13, k2_13, k3_13, f0_13, f1_13, f2_13, f3_13, fe_13, fo_13, tr_13, op_13, hk0_13, hk1_13, hk2_13, hk3_13, q0_13, q1_13, q2_13, q3_13, q4_13, q5_13, q6_13, q7_13, q8_13, q9_13, q10_13, q11_13, q12_13, hg_13⟩ := id (hDIs d (by omega))
    have c_14 : E1 (1 + d) 0 = .inr (7, [.int (nI d), .int fd_13, .int nm_13, .ref (ad (1 + d) 1), .ref (ad (1 + d) 9), .ref (ad (1 + d) 10), .ref (ad (1 + d) 2), .ref (ad (1 + d) 11), .ref (ad (1 + d) 12), .ref (ad (1 + d) 3), .ref (ad (1 + d) 4), .int sd_13]) := q0_13
    have m_15 : (1 + d, 0) ∈ RL := hm_13 0 (by omega)
    have c_16 : E1 (1 + d) 1 = .inr (8, [.ref (ad (1 + d) 5), .int (nI k0_13)]) := q1_13
    have m_17 : (1 + d, 1) ∈ RL := hm_13 1 (by omega)
    have c_18 : E1 (1 + d) 2 = .inr (8, [.ref (ad (1 + d) 6), .int (nI k1_13)]) := q2_13
    have m_19 : (1 + d, 2) ∈ RL := hm_13 2 (by omega)
    have c_20 : E1 (1 + d) 3 = .inr (8, [.ref (ad (1 + d) 7), .int (nI k2_13)]) := q3_13
    have m_21 : (1 + d, 3) ∈ RL := hm_13 3 (by omega)
    have c_22 : E1 (1 + d) 4 = .inr (8, [.ref (ad (1 + d) 8), .int (nI k3_13)]) := q4_13
    have m_23 : (1 + d, 4) ∈ RL := hm_13 4 (by omega)
    have c_24 : E1 (1 + d) 5 = .inl (kA 0, 6, .inl f0_13) := q5_13
    have m_25 : (1 + d, 5) ∈ RL := hm_13 5 (by omega)
    have c_26 : E1 (1 + d) 6 = .inl (kA 0, 5, .inl f1_13) := q6_13
    have m_27 : (1 + d, 6) ∈ RL := hm_13 6 (by omega)
    have c_28 : E1 (1 + d) 7 = .inl (kA 0, 3, .inl f2_13) := q7_13
    have m_29 : (1 + d, 7) ∈ RL := hm_13 7 (by omega)
    have c_30 : E1 (1 + d) 8 = .inl (kA 0, 3, .inl f3_13) := q8_13
    have m_31 : (1 + d, 8) ∈ RL := hm_13 8 (by omega)
    have c_32 : E1 (1 + d) 9 = .inl (kA 8, 6, .inr (.inr (.inr (.inr fe_13)))) := q9_13
    have m_33 : (1 + d, 9) ∈ RL := hm_13 9 (by omega)
    have c_34 : E1 (1 + d) 10 = .inl (kA 8, 6, .inr (.inr (.inr (.inr fo_13)))) := q10_13
    have m_35 : (1 + d, 10) ∈ RL := hm_13 10 (by omega)
    have c_36 : E1 (1 + d) 11 = .inl (kA 2, 5, .inl tr_13) := q11_13
    have m_37 : (1 + d, 11) ∈ RL := hm_13 11 (by omega)
    have c_38 : E1 (1 + d) 12 = .inl (kA 2, 5, .inl op_13) := q12_13
    have m_39 : (1 + d, 12) ∈ RL := hm_13 12 (by omega)
    have hg_13 : ∀ w9, w9 < k0_13 → fe_13 w9 = some (ad (1 + d) (20 + 3 * w9)) ∧ fo_13 w9 = some (ad (1 + d) (38 + 3 * w9)) ∧ GI kA (ad (1 + d)) (E1 (1 + d)) (fun o => (1 + d, o) ∈ RL) (20 + 3 * w9) (21 + 3 * w9) (22 + 3 * w9) ∧ GI kA (ad (1 + d)) (E1 (1 + d)) (fun o => (1 + d, o) ∈ RL) (38 + 3 * w9) (39 + 3 * w9) (40 + 3 * w9) := hg_13
    refine lv_aload_n hx hb xd_Me_settleReading_55 rfl (lv_at hl 1 rfl) ?_
    refine px_get (D := D) (ci := 6) (v := .ref (ad (20 + n) (14 + 10 * k))) (C := xR_Me) (T := xT_Me) (N := 6) hx hb hT xi_Me hown hK.1 hP ym0 c_2 rfl 5 (by decide) (hT _ ys3_27) (fun _ h9 => h9) rfl xd_Me_settleReading_56 ?_
    refine lv_aload_n hx hb xd_Me_settleReading_59 rfl (lv_at hl 1 rfl) ?_
    have hFc := px_free hD hS hA
    refine va_callv (va_runV (As := [.ref (ad (20 + n) (10 + 10 * k))]) (rest := []) ⟨hx, hb, hml, hown, hT⟩ (xc_Re_unmark l D kA H.size ad E1 RL (20 + n) (14 + 10 * k) (17 + 10 * k) gc1 n k d pv_8 op_8 fd_13 nm_13 sd_13 ym3 c_5 ym4 hc7 ym0 c_2 m_10 c_9 m_15 c_14 (by first | assumption | omega) (by first | assumption | omega) (by first | assumption | omega)) (cwV 1 hT (wT_V ys3_29 ys3_30 ys3_31 ys3_21 ys3_28) rfl rfl rfl (by decide +kernel) ⟨Nat.le_of_ble_eq_true rfl, Nat.le_of_ble_eq_true rfl⟩) (px_preV hK hP hD ym3 c_5 rfl) rfl rfl hl.1 rfl (lv_room (Nat.le_of_ble_eq_true rfl)) xd_Me_settleReading_60 ⟨(Nat.le_of_ble_eq_true rfl), (Nat.le_of_ble_eq_true rfl)⟩) hS (fun q _ h => hFc q h) hFc (fun u41 t H1 locs ht hvm hp42 hB hz1 hk1 hS => ?_)
    obtain ⟨hP1, hD1⟩ := hB
    rw [ht] at hP1
    have hD1 := hD1.weaken (fun _ _ _ h => hFc _ h)
    generalize H1 = H at hP1 hS ⊢
    have hP := hP1
    have hD := hD1
    obtain ⟨E43, rfl⟩ : ∃ z, z = u41 := ⟨_, rfl⟩
    obtain ⟨w44, hp47, p_45, p_46⟩ := hp42
    have p_45 : E43 (20 + n) (17 + 10 * k) = .inl (kA 0, 6, .inl w44) := p_45
    have p_46 : (∀ b2 o2, ¬ (b2 = (20 + n) ∧ o2 = (17 + 10 * k)) → E43 b2 o2 = E1 b2 o2) := p_46
    have c_48 : E43 (20 + n) (10 + 10 * k) = .inr (6, [.ref (ad (20 + n) 0), .ref (ad (1 + d) 0), .ref (ad (20 + n) (11 + 10 * k)), .ref (ad (20 + n) (12 + 10 * k)), .ref (ad (20 + n) (13 + 10 * k)), .ref (ad (20 + n) (14 + 10 * k))]) := (p_46 (20 + n) (10 + 10 * k) (by omega)).trans c_2
    have c_49 : E43 (20 + n) (11 + 10 * k) = .inl (kA 6, rs, .inr (.inr (.inr (.inr fr)))) := (p_46 (20 + n) (11 + 10 * k) (by omega)).trans c_3
    have c_50 : E43 (20 + n) (13 + 10 * k) = .inr (10, [.ref (ad (20 + n) (16 + 10 * k))]) := (p_46 (20 + n) (13 + 10 * k) (by omega)).trans c_4
    have c_51 : E43 (20 + n) (14 + 10 * k) = .inr (10, [.ref (ad (20 + n) (17 + 10 * k))]) := (p_46 (20 + n) (14 + 10 * k) (by omega)).trans c_5
    have c_52 : E43 (20 + n) (16 + 10 * k) = .inl (kA 0, 6, .inl gb) := (p_46 (20 + n) (16 + 10 * k) (by omega)).trans c_6
    have c_53 : E43 (20 + n) 0 = .inr (5, [.int (nI n), pv_8, .ref (ad (20 + n) 1), .int op_8]) := (p_46 (20 + n) 0 (by omega)).trans c_9
    have c_54 : E43 (20 + n) 1 = .inl (kA 6, mk_8, .inr (.inr (.inr (.inr fm_8)))) := (p_46 (20 + n) 1 (by omega)).trans c_11
    have c_55 : E43 (1 + d) 0 = .inr (7, [.int (nI d), .int fd_13, .int nm_13, .ref (ad (1 + d) 1), .ref (ad (1 + d) 9), .ref (ad (1 + d) 10), .ref (ad (1 + d) 2), .ref (ad (1 + d) 11), .ref (ad (1 + d) 12), .ref (ad (1 + d) 3), .ref (ad (1 + d) 4), .int sd_13]) := (p_46 (1 + d) 0 (by omega)).trans c_14
    have c_56 : E43 (1 + d) 1 = .inr (8, [.ref (ad (1 + d) 5), .int (nI k0_13)]) := (p_46 (1 + d) 1 (by omega)).trans c_16
    have c_57 : E43 (1 + d) 2 = .inr (8, [.ref (ad (1 + d) 6), .int (nI k1_13)]) := (p_46 (1 + d) 2 (by omega)).trans c_18
    have c_58 : E43 (1 + d) 3 = .inr (8, [.ref (ad (1 + d) 7), .int (nI k2_13)]) := (p_46 (1 + d) 3 (by omega)).trans c_20
    have c_59 : E43 (1 + d) 4 = .inr (8, [.ref (ad (1 + d) 8), .int (nI k3_13)]) := (p_46 (1 + d) 4 (by omega)).trans c_22
    have c_60 : E43 (1 + d) 5 = .inl (kA 0, 6, .inl f0_13) := (p_46 (1 + d) 5 (by omega)).trans c_24
    have c_61 : E43 (1 + d) 6 = .inl (kA 0, 5, .inl f1_13) := (p_46 (1 + d) 6 (by omega)).trans c_26
    have c_62 : E43 (1 + d) 7 = .inl (kA 0, 3, .inl f2_13) := (p_46 (1 + d) 7 (by omega)).trans c_28
    have c_63 : E43 (1 + d) 8 = .inl (kA 0, 3, .inl f3_13) := (p_46 (1 + d) 8 (by omega)).trans c_30
    have c_64 : E43 (1 + d) 9 = .inl (kA 8, 6, .inr (.inr (.inr (.inr fe_13)))) := (p_46 (1 + d) 9 (by omega)).trans c_32
    have c_65 : E43 (1 + d) 10 = .inl (kA 8, 6, .inr (.inr (.inr (.inr fo_13)))) := (p_46 (1 + d) 10 (by omega)).trans c_34
    have c_66 : E43 (1 + d) 11 = .inl (kA 2, 5, .inl tr_13) := (p_46 (1 + d) 11 (by omega)).trans c_36
    have c_67 : E43 (1 + d) 12 = .inl (kA 2, 5, .inl op_13) := (p_46 (1 + d) 12 (by omega)).trans c_38
    have hP : va_P D xcl (rp ad E43 RL) H := hP
    have hD : va_D A (rp ad E43 RL) := hD
    exact W.vret hx hb hr (fun t ht hW => ⟨⟨E43, rfl, ⟨w44, trivial, p_45, (fun b2 o2 h09 => by show E43 b2 o2 = _; rw [p_46 b2 o2 (by omega), hfr b2 o2 (by omega)])⟩, by rw [ht]; exact hP, hD⟩, hS.F ht⟩) hS.2.2 xd_Me_settleReading_63
  · rcases (show fr i = none ∨ (∃ x9 k9, (x9 = n ∧ k9 = k) ∧ fr i = some (ad (20 + x9) (10 + 10 * k9))) ∨ ∃ x9 k9, x9 ≤ n ∧ ¬ (x9 = n ∧ k9 = k) ∧ fr i = some (ad (20 + x9) (10 + 10 * k9)) ∧ MEI kA ad E RL nd x9 k9 from by
      rcases hRQ i (by omega) with q | ⟨x9, k9, q1, q2, q3⟩
      · exact Or.inl q
      · by_cases q4 : x9 = n ∧ k9 = k
        · exact Or.inr (Or.inl ⟨x9, k9, q4, q2⟩)
        · exact Or.inr (Or.inr ⟨x9, k9, q1, q4, q2, q3⟩)) with hq | ⟨x9, k9, ⟨hxk1, hxk2⟩, hq⟩ | ⟨x9, k9, hx9, hxk, hq, hM9⟩
    · have hq := hq
      refine lv_aload_n hx hb xd_Me_settleReading_11 rfl (lv_at hl 1 rfl) ?_
      refine px_get (D := D) (ci := 6) (v := .ref (ad (20 + n) (11 + 10 * k))) (C := xR_Me) (T := xT_Me) (N := 6) hx hb hT xi_Me hown hK.1 hP ym0 c_2 rfl 2 (by decide) (hT _ ys3_0) (fun _ h9 => h9) rfl xd_Me_settleReading_12 ?_
      refine lv_iload_n hx hb xd_Me_settleReading_15 rfl (lv_at hl 0 rfl) ?_
      refine px_aald (i := i) (x := none) hx hb hK.1 hP ym1 c_3 6 rfl (hq) (by omega) (by omega) xd_Me_settleReading_16 ?_
      refine lv_ifnullN (tgt := 49) hx hb xd_Me_settleReading_17 (by decide) ?_
      refine lv_iinc (k := 0) (x := (nI i)) (v := (nI (i + 1))) hx hb xd_Me_settleReading_49 hl rfl (xb_inc i 1) (Nat.le_of_ble_eq_true rfl) rfl (fun ls hl => ?_)
      have hl : lv_has ls 2 [(1, .int (nI (i + 1))), (0, .ref (ad (20 + n) (10 + 10 * k)))] := hl
      refine lv_goto (tgt := 2) hx hb xd_Me_settleReading_52 (by decide) ?_
      exact ih1 (i + 1, E1, gc1) _ _ _ (show rs - (i + 1) < rs - i by omega) (lv_sub hl [0, 1] rfl) hP hD hS ⟨(show (i + 1) ≤ rs from by first | assumption | omega), (show E1 (20 + n) (17 + 10 * k) = .inl (kA 0, 6, .inl gc1) from hc7), (show ∀ b2 o2, ¬ (b2 = 20 + n ∧ o2 = 17 + 10 * k) → E1 b2 o2 = E b2 o2 from fun b2 o2 h09 => by rw [hfr b2 o2 (by omega)])⟩
    · rw [hxk1, hxk2] at hq
      obtain ⟨m0_68, m1_68, pv_68, op_68, mk_68, fm_68, hmk_68, hpv_68, q0_68, q1_68, hk_68⟩ := id (hLIs n (by omega))
      have c_69 : E1 (20 + n) 0 = .inr (5, [.int (nI n), pv_68, .ref (ad (20 + n) 1), .int op_68]) := q0_68
      have m_70 : (20 + n, 0) ∈ RL := m0_68
      have c_71 : E1 (20 + n) 1 = .inl (kA 6, mk_68, .inr (.inr (.inr (.inr fm_68)))) := q1_68
      have m_72 : (20 + n, 1) ∈ RL := m1_68
      obtain ⟨hm_73, fd_73, nm_73, sd_73, k0_73, k1_73, k2_73, k3_73, f0_73, f1_73, f2_73, f3_73, fe_73, fo_73, tr_73, op_73, hk0_73, hk1_73, hk2_73, hk3_73, q0_73, q1_73, q2_73, q3_73, q4_73, q5_73, q6_73, q7_73, q8_73, q9_73, q10_73, q11_73, q12_73, hg_73⟩ := id (hDIs d (by omega))
      have c_74 : E1 (1 + d) 0 = .inr (7, [.int (nI d), .int fd_73, .int nm_73, .ref (ad (1 + d) 1), .ref (ad (1 + d) 9), .ref (ad (1 + d) 10), .ref (ad (1 + d) 2), .ref (ad (1 + d) 11), .ref (ad (1 + d) 12), .ref (ad (1 + d) 3), .ref (ad (1 + d) 4), .int sd_73]) := q0_73
      have m_75 : (1 + d, 0) ∈ RL := hm_73 0 (by omega)
      have c_76 : E1 (1 + d) 1 = .inr (8, [.ref (ad (1 + d) 5), .int (nI k0_73)]) := q1_73
      have m_77 : (1 + d, 1) ∈ RL := hm_73 1 (by omega)
      have c_78 : E1 (1 + d) 2 = .inr (8, [.ref (ad (1 + d) 6), .int (nI k1_73)]) := q2_73
      have m_79 : (1 + d, 2) ∈ RL := hm_73 2 (by omega)
      have c_80 : E1 (1 + d) 3 = .inr (8, [.ref (ad (1 + d) 7), .int (nI k2_73)]) := q3_73
      have m_81 : (1 + d, 3) ∈ RL := hm_73 3 (by omega)
      have c_82 : E1 (1 + d) 4 = .inr (8, [.ref (ad (1 + d) 8), .int (nI k3_73)]) := q4_73
      have m_83 : (1 + d, 4) ∈ RL := hm_73 4 (by omega)
      have c_84 : E1 (1 + d) 5 = .inl (kA 0, 6, .inl f0_73) := q5_73
      have m_85 : (1 + d, 5) ∈ RL := hm_73 5 (by omega)
      have c_86 : E1 (1 + d) 6 = .inl (kA 0, 5, .inl f1_73) := q6_73
      have m_87 : (1 + d, 6) ∈ RL := hm_73 6 (by omega)
      have c_88 : E1 (1 + d) 7 = .inl (kA 0, 3, .inl f2_73) := q7_73
      have m_89 : (1 + d, 7) ∈ RL := hm_73 7 (by omega)
      have c_90 : E1 (1 + d) 8 = .inl (kA 0, 3, .inl f3_73) := q8_73
      have m_91 : (1 + d, 8) ∈ RL := hm_73 8 (by omega)
      have c_92 : E1 (1 + d) 9 = .inl (kA 8, 6, .inr (.inr (.inr (.inr fe_73)))) := q9_73
      have m_93 : (1 + d, 9) ∈ RL := hm_73 9 (by omega)
      have c_94 : E1 (1 + d) 10 = .inl (kA 8, 6, .inr (.inr (.inr (.inr fo_73)))) := q10_73
      have m_95 : (1 + d, 10) ∈ RL := hm_73 10 (by omega)
      have c_96 : E1 (1 + d) 11 = .inl (kA 2, 5, .inl tr_73) := q11_73
      have m_97 : (1 + d, 11) ∈ RL := hm_73 11 (by omega)
      have c_98 : E1 (1 + d) 12 = .inl (kA 2, 5, .inl op_73) := q12_73
      have m_99 : (1 + d, 12) ∈ RL := hm_73 12 (by omega)
      have hg_73 : ∀ w9, w9 < k0_73 → fe_73 w9 = some (ad (1 + d) (20 + 3 * w9)) ∧ fo_73 w9 = some (ad (1 + d) (38 + 3 * w9)) ∧ GI kA (ad (1 + d)) (E1 (1 + d)) (fun o => (1 + d, o) ∈ RL) (20 + 3 * w9) (21 + 3 * w9) (22 + 3 * w9) ∧ GI kA (ad (1 + d)) (E1 (1 + d)) (fun o => (1 + d, o) ∈ RL) (38 + 3 * w9) (39 + 3 * w9) (40 + 3 * w9) := hg_73
      refine lv_aload_n hx hb xd_Me_settleReading_11 rfl (lv_at hl 1 rfl) ?_
      refine px_get (D := D) (ci := 6) (v := .ref (ad (20 + n) (11 + 10 * k))) (C := xR_Me) (T := xT_Me) (N := 6) hx hb hT xi_Me hown hK.1 hP ym0 c_2 rfl 2 (by decide) (hT _ ys3_0) (fun _ h9 => h9) rfl xd_Me_settleReading_12 ?_
      refine lv_iload_n hx hb xd_Me_settleReading_15 rfl (lv_at hl 0 rfl) ?_
      refine px_aald (i := i) (x := (some (ad (20 + n) (10 + 10 * k)))) hx hb hK.1 hP ym1 c_3 6 rfl (hq) (by omega) (by omega) xd_Me_settleReading_16 ?_
      refine lv_ifnull hx hb xd_Me_settleReading_17 ?_
      refine lv_aload_n hx hb xd_Me_settleReading_20 rfl (lv_at hl 1 rfl) ?_
      refine px_get (D := D) (ci := 6) (v := .ref (ad (20 + n) (14 + 10 * k))) (C := xR_Me) (T := xT_Me) (N := 6) hx hb hT xi_Me hown hK.1 hP ym0 c_2 rfl 5 (by decide) (hT _ ys3_27) (fun _ h9 => h9) rfl xd_Me_settleReading_21 ?_
      refine lv_aload_n hx hb xd_Me_settleReading_24 rfl (lv_at hl 1 rfl) ?_
      refine px_get (D := D) (ci := 6) (v := .ref (ad (20 + n) (11 + 10 * k))) (C := xR_Me) (T := xT_Me) (N := 6) hx hb hT xi_Me hown hK.1 hP ym0 c_2 rfl 2 (by decide) (hT _ ys3_0) (fun _ h9 => h9) rfl xd_Me_settleReading_25 ?_
      refine lv_iload_n hx hb xd_Me_settleReading_28 rfl (lv_at hl 0 rfl) ?_
      refine px_aald (i := i) (x := (some (ad (20 + n) (10 + 10 * k)))) hx hb hK.1 hP ym1 c_3 6 rfl (hq) (by omega) (by omega) xd_Me_settleReading_29 ?_
      have hFc := px_free hD hS hA
      refine va_callv (va_runV (As := [.ref (ad (20 + n) (10 + 10 * k))]) (rest := []) ⟨hx, hb, hml, hown, hT⟩ (xc_Re_mark l D kA H.size ad E1 RL (20 + n) (14 + 10 * k) (17 + 10 * k) gc1 n k d pv_68 op_68 fd_73 nm_73 sd_73 ym3 c_5 ym4 hc7 ym0 c_2 m_70 c_69 m_75 c_74 (by first | assumption | omega) (by first | assumption | omega) (by first | assumption | omega)) (cwV 1 hT (wT_V ys3_18 ys3_19 ys3_20 ys3_21 ys3_17) rfl rfl rfl (by decide +kernel) ⟨Nat.le_of_ble_eq_true rfl, Nat.le_of_ble_eq_true rfl⟩) (px_preV hK hP hD ym3 c_5 rfl) rfl rfl hl.1 rfl (lv_room (Nat.le_of_ble_eq_true rfl)) xd_Me_settleReading_30 ⟨(Nat.le_of_ble_eq_true rfl), (Nat.le_of_ble_eq_true rfl)⟩) hS (fun q _ h => hFc q h) hFc (fun u101 t H1 locs ht hvm hp102 hB hz1 hk1 hS => ?_)
      obtain ⟨hP1, hD1⟩ := hB
      rw [ht] at hP1
      have hD1 := hD1.weaken (fun _ _ _ h => hFc _ h)
      generalize H1 = H at hP1 hS ⊢
      have hP := hP1
      have hD := hD1
      obtain ⟨E103, rfl⟩ : ∃ z, z = u101 := ⟨_, rfl⟩
      obtain ⟨w104, hp107, p_105, p_106⟩ := hp102
      have p_105 : E103 (20 + n) (17 + 10 * k) = .inl (kA 0, 6, .inl w104) := p_105
      have p_106 : (∀ b2 o2, ¬ (b2 = (20 + n) ∧ o2 = (17 + 10 * k)) → E103 b2 o2 = E1 b2 o2) := p_106
      have c_108 : E103 (20 + n) (10 + 10 * k) = .inr (6, [.ref (ad (20 + n) 0), .ref (ad (1 + d) 0), .ref (ad (20 + n) (11 + 10 * k)), .ref (ad (20 + n) (12 + 10 * k)), .ref (ad (20 + n) (13 + 10 * k)), .ref (ad (20 + n) (14 + 10 * k))]) := (p_106 (20 + n) (10 + 10 * k) (by omega)).trans c_2
      have c_109 : E103 (20 + n) (11 + 10 * k) = .inl (kA 6, rs, .inr (.inr (.inr (.inr fr)))) := (p_106 (20 + n) (11 + 10 * k) (by omega)).trans c_3
      have c_110 : E103 (20 + n) (13 + 10 * k) = .inr (10, [.ref (ad (20 + n) (16 + 10 * k))]) := (p_106 (20 + n) (13 + 10 * k) (by omega)).trans c_4
      have c_111 : E103 (20 + n) (14 + 10 * k) = .inr (10, [.ref (ad (20 + n) (17 + 10 * k))]) := (p_106 (20 + n) (14 + 10 * k) (by omega)).trans c_5
      have c_112 : E103 (20 + n) (16 + 10 * k) = .inl (kA 0, 6, .inl gb) := (p_106 (20 + n) (16 + 10 * k) (by omega)).trans c_6
      have c_113 : E103 (20 + n) 0 = .inr (5, [.int (nI n), pv_68, .ref (ad (20 + n) 1), .int op_68]) := (p_106 (20 + n) 0 (by omega)).trans c_69
      have c_114 : E103 (20 + n) 1 = .inl (kA 6, mk_68, .inr (.inr (.inr (.inr fm_68)))) := (p_106 (20 + n) 1 (by omega)).trans c_71
      have c_115 : E103 (1 + d) 0 = .inr (7, [.int (nI d), .int fd_73, .int nm_73, .ref (ad (1 + d) 1), .ref (ad (1 + d) 9), .ref (ad (1 + d) 10), .ref (ad (1 + d) 2), .ref (ad (1 + d) 11), .ref (ad (1 + d) 12), .ref (ad (1 + d) 3), .ref (ad (1 + d) 4), .int sd_73]) := (p_106 (1 + d) 0 (by omega)).trans c_74
      have c_116 : E103 (1 + d) 1 = .inr (8, [.ref (ad (1 + d) 5), .int (nI k0_73)]) := (p_106 (1 + d) 1 (by omega)).trans c_76
      have c_117 : E103 (1 + d) 2 = .inr (8, [.ref (ad (1 + d) 6), .int (nI k1_73)]) := (p_106 (1 + d) 2 (by omega)).trans c_78
      have c_118 : E103 (1 + d) 3 = .inr (8, [.ref (ad (1 + d) 7), .int (nI k2_73)]) := (p_106 (1 + d) 3 (by omega)).trans c_80
      have c_119 : E103 (1 + d) 4 = .inr (8, [.ref (ad (1 + d) 8), .int (nI k3_73)]) := (p_106 (1 + d) 4 (by omega)).trans c_82
      have c_120 : E103 (1 + d) 5 = .inl (kA 0, 6, .inl f0_73) := (p_106 (1 + d) 5 (by omega)).trans c_84
      have c_121 : E103 (1 + d) 6 = .inl (kA 0, 5, .inl f1_73) := (p_106 (1 + d) 6 (by omega)).trans c_86
      have c_122 : E103 (1 + d) 7 = .inl (kA 0, 3, .inl f2_73) := (p_106 (1 + d) 7 (by omega)).trans c_88
      have c_123 : E103 (1 + d) 8 = .inl (kA 0, 3, .inl f3_73) := (p_106 (1 + d) 8 (by omega)).trans c_90
      have c_124 : E103 (1 + d) 9 = .inl (kA 8, 6, .inr (.inr (.inr (.inr fe_73)))) := (p_106 (1 + d) 9 (by omega)).trans c_92
      have c_125 : E103 (1 + d) 10 = .inl (kA 8, 6, .inr (.inr (.inr (.inr fo_73)))) := (p_106 (1 + d) 10 (by omega)).trans c_94
      have c_126 : E103 (1 + d) 11 = .inl (kA 2, 5, .inl tr_73) := (p_106 (1 + d) 11 (by omega)).trans c_96
      have c_127 : E103 (1 + d) 12 = .inl (kA 2, 5, .inl op_73) := (p_106 (1 + d) 12 (by omega)).trans c_98
      have hP : va_P D xcl (rp ad E103 RL) H := hP
      have hD : va_D A (rp ad E103 RL) := hD
      refine lv_aload_n hx hb xd_Me_settleReading_33 rfl (lv_at hl 1 rfl) ?_
      refine px_get (D := D) (ci := 6) (v := .ref (ad (20 + n) (14 + 10 * k))) (C := xR_Me) (T := xT_Me) (N := 6) hx hb hT xi_Me hown hK.1 hP ym0 c_108 rfl 5 (by decide) (hT _ ys3_27) (fun _ h9 => h9) rfl xd_Me_settleReading_34 ?_
      refine lv_aload_n hx hb xd_Me_settleReading_37 rfl (lv_at hl 1 rfl) ?_
      refine px_get (D := D) (ci := 6) (v := .ref (ad (20 + n) (11 + 10 * k))) (C := xR_Me) (T := xT_Me) (N := 6) hx hb hT xi_Me hown hK.1 hP ym0 c_108 rfl 2 (by decide) (hT _ ys3_0) (fun _ h9 => h9) rfl xd_Me_settleReading_38 ?_
      refine lv_iload_n hx hb xd_Me_settleReading_41 rfl (lv_at hl 0 rfl) ?_
      refine px_aald (i := i) (x := (some (ad (20 + n) (10 + 10 * k)))) hx hb hK.1 hP ym1 c_109 6 rfl (hq) (by omega) (by omega) xd_Me_settleReading_42 ?_
      refine px_get (D := D) (ci := 6) (v := .ref (ad (20 + n) (13 + 10 * k))) (C := xR_Me) (T := xT_Me) (N := 6) hx hb hT xi_Me hown hK.1 hP ym0 c_108 rfl 4 (by decide) (hT _ ys3_16) (fun _ h9 => h9) rfl xd_Me_settleReading_43 ?_
      have hFc := px_free hD hS hA
      refine va_callv (va_runV (As := [.ref (ad (20 + n) (13 + 10 * k))]) (rest := []) ⟨hx, hb, hml, hown, hT⟩ (xc_Re_join l D kA H.size ad E103 RL (20 + n) (14 + 10 * k) (17 + 10 * k) w104 (20 + n) (13 + 10 * k) (16 + 10 * k) gb ym3 c_111 ym4 p_105 ym2 c_110 ym5 c_112 (by first | assumption | omega) (by first | assumption | omega)) (cwV 1 hT (wT_V ys3_24 ys3_25 ys3_26 ys3_21 ys3_23) rfl rfl rfl (by decide +kernel) ⟨Nat.le_of_ble_eq_true rfl, Nat.le_of_ble_eq_true rfl⟩) (px_preV hK hP hD ym3 c_111 rfl) rfl rfl hl.1 rfl (lv_room (Nat.le_of_ble_eq_true rfl)) xd_Me_settleReading_46 ⟨(Nat.le_of_ble_eq_true rfl), (Nat.le_of_ble_eq_true rfl)⟩) hS (fun q _ h => hFc q h) hFc (fun u129 t H1 locs ht hvm hp130 hB hz1 hk1 hS => ?_)
      obtain ⟨hP1, hD1⟩ := hB
      rw [ht] at hP1
      have hD1 := hD1.weaken (fun _ _ _ h => hFc _ h)
      generalize H1 = H at hP1 hS ⊢
      have hP := hP1
      have hD := hD1
      obtain ⟨E131, rfl⟩ : ∃ z, z = u129 := ⟨_, rfl⟩
      obtain ⟨w132, hp135, p_133, p_134⟩ := hp130
      have p_133 : E131 (20 + n) (17 + 10 * k) = .inl (kA 0, 6, .inl w132) := p_133
      have p_134 : (∀ b2 o2, ¬ (b2 = (20 + n) ∧ o2 = (17 + 10 * k)) → E131 b2 o2 = E103 b2 o2) := p_134
      have c_136 : E131 (20 + n) (10 + 10 * k) = .inr (6, [.ref (ad (20 + n) 0), .ref (ad (1 + d) 0), .ref (ad (20 + n) (11 + 10 * k)), .ref (ad (20 + n) (12 + 10 * k)), .ref (ad (20 + n) (13 + 10 * k)), .ref (ad (20 + n) (14 + 10 * k))]) := (p_134 (20 + n) (10 + 10 * k) (by omega)).trans c_108
      have c_137 : E131 (20 + n) (11 + 10 * k) = .inl (kA 6, rs, .inr (.inr (.inr (.inr fr)))) := (p_134 (20 + n) (11 + 10 * k) (by omega)).trans c_109
      have c_138 : E131 (20 + n) (13 + 10 * k) = .inr (10, [.ref (ad (20 + n) (16 + 10 * k))]) := (p_134 (20 + n) (13 + 10 * k) (by omega)).trans c_110
      have c_139 : E131 (20 + n) (14 + 10 * k) = .inr (10, [.ref (ad (20 + n) (17 + 10 * k))]) := (p_134 (20 + n) (14 + 10 * k) (by omega)).trans c_111
      have c_140 : E131 (20 + n) (16 + 10 * k) = .inl (kA 0, 6, .inl gb) := (p_134 (20 + n) (16 + 10 * k) (by omega)).trans c_112
      have c_141 : E131 (20 + n) 0 = .inr (5, [.int (nI n), pv_68, .ref (ad (20 + n) 1), .int op_68]) := (p_134 (20 + n) 0 (by omega)).trans c_113
      have c_142 : E131 (20 + n) 1 = .inl (kA 6, mk_68, .inr (.inr (.inr (.inr fm_68)))) := (p_134 (20 + n) 1 (by omega)).trans c_114
      have c_143 : E131 (1 + d) 0 = .inr (7, [.int (nI d), .int fd_73, .int nm_73, .ref (ad (1 + d) 1), .ref (ad (1 + d) 9), .ref (ad (1 + d) 10), .ref (ad (1 + d) 2), .ref (ad (1 + d) 11), .ref (ad (1 + d) 12), .ref (ad (1 + d) 3), .ref (ad (1 + d) 4), .int sd_73]) := (p_134 (1 + d) 0 (by omega)).trans c_115
      have c_144 : E131 (1 + d) 1 = .inr (8, [.ref (ad (1 + d) 5), .int (nI k0_73)]) := (p_134 (1 + d) 1 (by omega)).trans c_116
      have c_145 : E131 (1 + d) 2 = .inr (8, [.ref (ad (1 + d) 6), .int (nI k1_73)]) := (p_134 (1 + d) 2 (by omega)).trans c_117
      have c_146 : E131 (1 + d) 3 = .inr (8, [.ref (ad (1 + d) 7), .int (nI k2_73)]) := (p_134 (1 + d) 3 (by omega)).trans c_118
      have c_147 : E131 (1 + d) 4 = .inr (8, [.ref (ad (1 + d) 8), .int (nI k3_73)]) := (p_134 (1 + d) 4 (by omega)).trans c_119
      have c_148 : E131 (1 + d) 5 = .inl (kA 0, 6, .inl f0_73) := (p_134 (1 + d) 5 (by omega)).trans c_120
      have c_149 : E131 (1 + d) 6 = .inl (kA 0, 5, .inl f1_73) := (p_134 (1 + d) 6 (by omega)).trans c_121
      have c_150 : E131 (1 + d) 7 = .inl (kA 0, 3, .inl f2_73) := (p_134 (1 + d) 7 (by omega)).trans c_122
      have c_151 : E131 (1 + d) 8 = .inl (kA 0, 3, .inl f3_73) := (p_134 (1 + d) 8 (by omega)).trans c_123
      have c_152 : E131 (1 + d) 9 = .inl (kA 8, 6, .inr (.inr (.inr (.inr fe_73)))) := (p_134 (1 + d) 9 (by omega)).trans c_124
      have c_153 : E131 (1 + d) 10 = .inl (kA 8, 6, .inr (.inr (.inr (.inr fo_73)))) := (p_134 (1 + d) 10 (by omega)).trans c_125
      have c_154 : E131 (1 + d) 11 = .inl (kA 2, 5, .inl tr_73) := (p_134 (1 + d) 11 (by omega)).trans c_126
      have c_155 : E131 (1 + d) 12 = .inl (kA 2, 5, .inl op_73) := (p_134 (1 + d) 12 (by omega)).trans c_127
      have hP : va_P D xcl (rp ad E131 RL) H := hP
      have hD : va_D A (rp ad E131 RL) := hD
      refine lv_iinc (k := 0) (x := (nI i)) (v := (nI (i + 1))) hx hb xd_Me_settleReading_49 hl rfl (xb_inc i 1) (Nat.le_of_ble_eq_true rfl) rfl (fun ls hl => ?_)
      have hl : lv_has ls 2 [(1, .int (nI (i + 1))), (0, .ref (ad (20 + n) (10 + 10 * k)))] := hl
      refine lv_goto (tgt := 2) hx hb xd_Me_settleReading_52 (by decide) ?_
      exact ih1 (i + 1, E131, w132) _ _ _ (show rs - (i + 1) < rs - i by omega) (lv_sub hl [0, 1] rfl) hP hD hS ⟨(show (i + 1) ≤ rs from by first | assumption | omega), (show E131 (20 + n) (17 + 10 * k) = .inl (kA 0, 6, .inl w132) from p_133), (show ∀ b2 o2, ¬ (b2 = 20 + n ∧ o2 = 17 + 10 * k) → E131 b2 o2 = E b2 o2 from fun b2 o2 h09 => by rw [p_134 b2 o2 (by omega), p_106 b2 o2 (by omega), hfr b2 o2 (by omega)])⟩
    · have hM9 := MEI_RU hRU hM9
      obtain ⟨hm_156, d_156, rs_156, fr_156, g2_156, g3_156, g4_156, hd_156, hrs_156, q0_156, q1_156, q2_156, q3_156, q4_156, q5_156, q6_156, q7_156⟩ := id hM9
      have c_157 : E1 (20 + x9) (10 + 10 * k9) = .inr (6, [.ref (ad (20 + x9) 0), .ref (ad (1 + d_156) 0), .ref (ad (20 + x9) (11 + 10 * k9)), .ref (ad (20 + x9) (12 + 10 * k9)), .ref (ad (20 + x9) (13 + 10 * k9)), .ref (ad (20 + x9) (14 + 10 * k9))]) := q0_156
      have m_158 : (20 + x9, 10 + 10 * k9) ∈ RL := hm_156 0 (by omega)
      have c_159 : E1 (20 + x9) (11 + 10 * k9) = .inl (kA 6, rs_156, .inr (.inr (.inr (.inr fr_156)))) := q1_156
      have m_160 : (20 + x9, 11 + 10 * k9) ∈ RL := hm_156 1 (by omega)
      have c_161 : E1 (20 + x9) (12 + 10 * k9) = .inr (10, [.ref (ad (20 + x9) (15 + 10 * k9))]) := q2_156
      have m_162 : (20 + x9, 12 + 10 * k9) ∈ RL := hm_156 2 (by omega)
      have c_163 : E1 (20 + x9) (13 + 10 * k9) = .inr (10, [.ref (ad (20 + x9) (16 + 10 * k9))]) := q3_156
      have m_164 : (20 + x9, 13 + 10 * k9) ∈ RL := hm_156 3 (by omega)
      have c_165 : E1 (20 + x9) (14 + 10 * k9) = .inr (10, [.ref (ad (20 + x9) (17 + 10 * k9))]) := q4_156
      have m_166 : (20 + x9, 14 + 10 * k9) ∈ RL := hm_156 4 (by omega)
      have c_167 : E1 (20 + x9) (15 + 10 * k9) = .inl (kA 0, 6, .inl g2_156) := q5_156
      have m_168 : (20 + x9, 15 + 10 * k9) ∈ RL := hm_156 5 (by omega)
      have c_169 : E1 (20 + x9) (16 + 10 * k9) = .inl (kA 0, 6, .inl g3_156) := q6_156
      have m_170 : (20 + x9, 16 + 10 * k9) ∈ RL := hm_156 6 (by omega)
      have c_171 : E1 (20 + x9) (17 + 10 * k9) = .inl (kA 0, 6, .inl g4_156) := q7_156
      have m_172 : (20 + x9, 17 + 10 * k9) ∈ RL := hm_156 7 (by omega)
      obtain ⟨m0_173, m1_173, pv_173, op_173, mk_173, fm_173, hmk_173, hpv_173, q0_173, q1_173, hk_173⟩ := id (hLIs x9 (by omega))
      have c_174 : E1 (20 + x9) 0 = .inr (5, [.int (nI x9), pv_173, .ref (ad (20 + x9) 1), .int op_173]) := q0_173
      have m_175 : (20 + x9, 0) ∈ RL := m0_173
      have c_176 : E1 (20 + x9) 1 = .inl (kA 6, mk_173, .inr (.inr (.inr (.inr fm_173)))) := q1_173
      have m_177 : (20 + x9, 1) ∈ RL := m1_173
      obtain ⟨hm_178, fd_178, nm_178, sd_178, k0_178, k1_178, k2_178, k3_178, f0_178, f1_178, f2_178, f3_178, fe_178, fo_178, tr_178, op_178, hk0_178, hk1_178, hk2_178, hk3_178, q0_178, q1_178, q2_178, q3_178, q4_178, q5_178, q6_178, q7_178, q8_178, q9_178, q10_178, q11_178, q12_178, hg_178⟩ := id (hDIs d_156 (by omega))
      have c_179 : E1 (1 + d_156) 0 = .inr (7, [.int (nI d_156), .int fd_178, .int nm_178, .ref (ad (1 + d_156) 1), .ref (ad (1 + d_156) 9), .ref (ad (1 + d_156) 10), .ref (ad (1 + d_156) 2), .ref (ad (1 + d_156) 11), .ref (ad (1 + d_156) 12), .ref (ad (1 + d_156) 3), .ref (ad (1 + d_156) 4), .int sd_178]) := q0_178
      have m_180 : (1 + d_156, 0) ∈ RL := hm_178 0 (by omega)
      have c_181 : E1 (1 + d_156) 1 = .inr (8, [.ref (ad (1 + d_156) 5), .int (nI k0_178)]) := q1_178
      have m_182 : (1 + d_156, 1) ∈ RL := hm_178 1 (by omega)
      have c_183 : E1 (1 + d_156) 2 = .inr (8, [.ref (ad (1 + d_156) 6), .int (nI k1_178)]) := q2_178
      have m_184 : (1 + d_156, 2) ∈ RL := hm_178 2 (by omega)
      have c_185 : E1 (1 + d_156) 3 = .inr (8, [.ref (ad (1 + d_156) 7), .int (nI k2_178)]) := q3_178
      have m_186 : (1 + d_156, 3) ∈ RL := hm_178 3 (by omega)
      have c_187 : E1 (1 + d_156) 4 = .inr (8, [.ref (ad (1 + d_156) 8), .int (nI k3_178)]) := q4_178
      have m_188 : (1 + d_156, 4) ∈ RL := hm_178 4 (by omega)
      have c_189 : E1 (1 + d_156) 5 = .inl (kA 0, 6, .inl f0_178) := q5_178
      have m_190 : (1 + d_156, 5) ∈ RL := hm_178 5 (by omega)
      have c_191 : E1 (1 + d_156) 6 = .inl (kA 0, 5, .inl f1_178) := q6_178
      have m_192 : (1 + d_156, 6) ∈ RL := hm_178 6 (by omega)
      have c_193 : E1 (1 + d_156) 7 = .inl (kA 0, 3, .inl f2_178) := q7_178
      have m_194 : (1 + d_156, 7) ∈ RL := hm_178 7 (by omega)
      have c_195 : E1 (1 + d_156) 8 = .inl (kA 0, 3, .inl f3_178) := q8_178
      have m_196 : (1 + d_156, 8) ∈ RL := hm_178 8 (by omega)
      have c_197 : E1 (1 + d_156) 9 = .inl (kA 8, 6, .inr (.inr (.inr (.inr fe_178)))) := q9_178
      have m_198 : (1 + d_156, 9) ∈ RL := hm_178 9 (by omega)
      have c_199 : E1 (1 + d_156) 10 = .inl (kA 8, 6, .inr (.inr (.inr (.inr fo_178)))) := q10_178
      have m_200 : (1 + d_156, 10) ∈ RL := hm_178 10 (by omega)
      have c_201 : E1 (1 + d_156) 11 = .inl (kA 2, 5, .inl tr_178) := q11_178
      have m_202 : (1 + d_156, 11) ∈ RL := hm_178 11 (by omega)
      have c_203 : E1 (1 + d_156) 12 = .inl (kA 2, 5, .inl op_178) := q12_178
      have m_204 : (1 + d_156, 12) ∈ RL := hm_178 12 (by omega)
      have hg_178 : ∀ w9, w9 < k0_178 → fe_178 w9 = some (ad (1 + d_156) (20 + 3 * w9)) ∧ fo_178 w9 = some (ad (1 + d_156) (38 + 3 * w9)) ∧ GI kA (ad (1 + d_156)) (E1 (1 + d_156)) (fun o => (1 + d_156, o) ∈ RL) (20 + 3 * w9) (21 + 3 * w9) (22 + 3 * w9) ∧ GI kA (ad (1 + d_156)) (E1 (1 + d_156)) (fun o => (1 + d_156, o) ∈ RL) (38 + 3 * w9) (39 + 3 * w9) (40 + 3 * w9) := hg_178
      refine lv_aload_n hx hb xd_Me_settleReading_11 rfl (lv_at hl 1 rfl) ?_
      refine px_get (D := D) (ci := 6) (v := .ref (ad (20 + n) (11 + 10 * k))) (C := xR_Me) (T := xT_Me) (N := 6) hx hb hT xi_Me hown hK.1 hP ym0 c_2 rfl 2 (by decide) (hT _ ys3_0) (fun _ h9 => h9) rfl xd_Me_settleReading_12 ?_
      refine lv_iload_n hx hb xd_Me_settleReading_15 rfl (lv_at hl 0 rfl) ?_
      refine px_aald (i := i) (x := (some (ad (20 + x9) (10 + 10 * k9)))) hx hb hK.1 hP ym1 c_3 6 rfl (hq) (by omega) (by omega) xd_Me_settleReading_16 ?_
      refine lv_ifnull hx hb xd_Me_settleReading_17 ?_
      refine lv_aload_n hx hb xd_Me_settleReading_20 rfl (lv_at hl 1 rfl) ?_
      refine px_get (D := D) (ci := 6) (v := .ref (ad (20 + n) (14 + 10 * k))) (C := xR_Me) (T := xT_Me) (N := 6) hx hb hT xi_Me hown hK.1 hP ym0 c_2 rfl 5 (by decide) (hT _ ys3_27) (fun _ h9 => h9) rfl xd_Me_settleReading_21 ?_
      refine lv_aload_n hx hb xd_Me_settleReading_24 rfl (lv_at hl 1 rfl) ?_
      refine px_get (D := D) (ci := 6) (v := .ref (ad (20 + n) (11 + 10 * k))) (C := xR_Me) (T := xT_Me) (N := 6) hx hb hT xi_Me hown hK.1 hP ym0 c_2 rfl 2 (by decide) (hT _ ys3_0) (fun _ h9 => h9) rfl xd_Me_settleReading_25 ?_
      refine lv_iload_n hx hb xd_Me_settleReading_28 rfl (lv_at hl 0 rfl) ?_
      refine px_aald (i := i) (x := (some (ad (20 + x9) (10 + 10 * k9)))) hx hb hK.1 hP ym1 c_3 6 rfl (hq) (by omega) (by omega) xd_Me_settleReading_29 ?_
      have hFc := px_free hD hS hA
      refine va_callv (va_runV (As := [.ref (ad (20 + x9) (10 + 10 * k9))]) (rest := []) ⟨hx, hb, hml, hown, hT⟩ (xc_Re_mark l D kA H.size ad E1 RL (20 + n) (14 + 10 * k) (17 + 10 * k) gc1 x9 k9 d_156 pv_173 op_173 fd_178 nm_178 sd_178 ym3 c_5 ym4 hc7 m_158 c_157 m_175 c_174 m_180 c_179 (by first | assumption | omega) (by first | assumption | omega) (by first | assumption | omega)) (cwV 1 hT (wT_V ys3_18 ys3_19 ys3_20 ys3_21 ys3_17) rfl rfl rfl (by decide +kernel) ⟨Nat.le_of_ble_eq_true rfl, Nat.le_of_ble_eq_true rfl⟩) (px_preV hK hP hD ym3 c_5 rfl) rfl rfl hl.1 rfl (lv_room (Nat.le_of_ble_eq_true rfl)) xd_Me_settleReading_30 ⟨(Nat.le_of_ble_eq_true rfl), (Nat.le_of_ble_eq_true rfl)⟩) hS (fun q _ h => hFc q h) hFc (fun u206 t H1 locs ht hvm hp207 hB hz1 hk1 hS => ?_)
      obtain ⟨hP1, hD1⟩ := hB
      rw [ht] at hP1
      have hD1 := hD1.weaken (fun _ _ _ h => hFc _ h)
      generalize H1 = H at hP1 hS ⊢
      have hP := hP1
      have hD := hD1
      obtain ⟨E208, rfl⟩ : ∃ z, z = u206 := ⟨_, rfl⟩
      obtain ⟨w209, hp212, p_210, p_211⟩ := hp207
      have p_210 : E208 (20 + n) (17 + 10 * k) = .inl (kA 0, 6, .inl w209) := p_210
      have p_211 : (∀ b2 o2, ¬ (b2 = (20 + n) ∧ o2 = (17 + 10 * k)) → E208 b2 o2 = E1 b2 o2) := p_211
      have c_213 : E208 (20 + n) (10 + 10 * k) = .inr (6, [.ref (ad (20 + n) 0), .ref (ad (1 + d) 0), .ref (ad (20 + n) (11 + 10 * k)), .ref (ad (20 + n) (12 + 10 * k)), .ref (ad (20 + n) (13 + 10 * k)), .ref (ad (20 + n) (14 + 10 * k))]) := (p_211 (20 + n) (10 + 10 * k) (by omega)).trans c_2
      have c_214 : E208 (20 + n) (11 + 10 * k) = .inl (kA 6, rs, .inr (.inr (.inr (.inr fr)))) := (p_211 (20 + n) (11 + 10 * k) (by omega)).trans c_3
      have c_215 : E208 (20 + n) (13 + 10 * k) = .inr (10, [.ref (ad (20 + n) (16 + 10 * k))]) := (p_211 (20 + n) (13 + 10 * k) (by omega)).trans c_4
      have c_216 : E208 (20 + n) (14 + 10 * k) = .inr (10, [.ref (ad (20 + n) (17 + 10 * k))]) := (p_211 (20 + n) (14 + 10 * k) (by omega)).trans c_5
      have c_217 : E208 (20 + n) (16 + 10 * k) = .inl (kA 0, 6, .inl gb) := (p_211 (20 + n) (16 + 10 * k) (by omega)).trans c_6
      have c_218 : E208 (20 + x9) (10 + 10 * k9) = .inr (6, [.ref (ad (20 + x9) 0), .ref (ad (1 + d_156) 0), .ref (ad (20 + x9) (11 + 10 * k9)), .ref (ad (20 + x9) (12 + 10 * k9)), .ref (ad (20 + x9) (13 + 10 * k9)), .ref (ad (20 + x9) (14 + 10 * k9))]) := (p_211 (20 + x9) (10 + 10 * k9) (by omega)).trans c_157
      have c_219 : E208 (20 + x9) (11 + 10 * k9) = .inl (kA 6, rs_156, .inr (.inr (.inr (.inr fr_156)))) := (p_211 (20 + x9) (11 + 10 * k9) (by omega)).trans c_159
      have c_220 : E208 (20 + x9) (12 + 10 * k9) = .inr (10, [.ref (ad (20 + x9) (15 + 10 * k9))]) := (p_211 (20 + x9) (12 + 10 * k9) (by omega)).trans c_161
      have c_221 : E208 (20 + x9) (13 + 10 * k9) = .inr (10, [.ref (ad (20 + x9) (16 + 10 * k9))]) := (p_211 (20 + x9) (13 + 10 * k9) (by omega)).trans c_163
      have c_222 : E208 (20 + x9) (14 + 10 * k9) = .inr (10, [.ref (ad (20 + x9) (17 + 10 * k9))]) := (p_211 (20 + x9) (14 + 10 * k9) (by omega)).trans c_165
      have c_223 : E208 (20 + x9) (15 + 10 * k9) = .inl (kA 0, 6, .inl g2_156) := (p_211 (20 + x9) (15 + 10 * k9) (by omega)).trans c_167
      have c_224 : E208 (20 + x9) (16 + 10 * k9) = .inl (kA 0, 6, .inl g3_156) := (p_211 (20 + x9) (16 + 10 * k9) (by omega)).trans c_169
      have c_225 : E208 (20 + x9) (17 + 10 * k9) = .inl (kA 0, 6, .inl g4_156) := (p_211 (20 + x9) (17 + 10 * k9) (by omega)).trans c_171
      have c_226 : E208 (20 + x9) 0 = .inr (5, [.int (nI x9), pv_173, .ref (ad (20 + x9) 1), .int op_173]) := (p_211 (20 + x9) 0 (by omega)).trans c_174
      have c_227 : E208 (20 + x9) 1 = .inl (kA 6, mk_173, .inr (.inr (.inr (.inr fm_173)))) := (p_211 (20 + x9) 1 (by omega)).trans c_176
      have c_228 : E208 (1 + d_156) 0 = .inr (7, [.int (nI d_156), .int fd_178, .int nm_178, .ref (ad (1 + d_156) 1), .ref (ad (1 + d_156) 9), .ref (ad (1 + d_156) 10), .ref (ad (1 + d_156) 2), .ref (ad (1 + d_156) 11), .ref (ad (1 + d_156) 12), .ref (ad (1 + d_156) 3), .ref (ad (1 + d_156) 4), .int sd_178]) := (p_211 (1 + d_156) 0 (by omega)).trans c_179
      have c_229 : E208 (1 + d_156) 1 = .inr (8, [.ref (ad (1 + d_156) 5), .int (nI k0_178)]) := (p_211 (1 + d_156) 1 (by omega)).trans c_181
      have c_230 : E208 (1 + d_156) 2 = .inr (8, [.ref (ad (1 + d_156) 6), .int (nI k1_178)]) := (p_211 (1 + d_156) 2 (by omega)).trans c_183
      have c_231 : E208 (1 + d_156) 3 = .inr (8, [.ref (ad (1 + d_156) 7), .int (nI k2_178)]) := (p_211 (1 + d_156) 3 (by omega)).trans c_185
      have c_232 : E208 (1 + d_156) 4 = .inr (8, [.ref (ad (1 + d_156) 8), .int (nI k3_178)]) := (p_211 (1 + d_156) 4 (by omega)).trans c_187
      have c_233 : E208 (1 + d_156) 5 = .inl (kA 0, 6, .inl f0_178) := (p_211 (1 + d_156) 5 (by omega)).trans c_189
      have c_234 : E208 (1 + d_156) 6 = .inl (kA 0, 5, .inl f1_178) := (p_211 (1 + d_156) 6 (by omega)).trans c_191
      have c_235 : E208 (1 + d_156) 7 = .inl (kA 0, 3, .inl f2_178) := (p_211 (1 + d_156) 7 (by omega)).trans c_193
      have c_236 : E208 (1 + d_156) 8 = .inl (kA 0, 3, .inl f3_178) := (p_211 (1 + d_156) 8 (by omega)).trans c_195
      have c_237 : E208 (1 + d_156) 9 = .inl (kA 8, 6, .inr (.inr (.inr (.inr fe_178)))) := (p_211 (1 + d_156) 9 (by omega)).trans c_197
      have c_238 : E208 (1 + d_156) 10 = .inl (kA 8, 6, .inr (.inr (.inr (.inr fo_178)))) := (p_211 (1 + d_156) 10 (by omega)).trans c_199
      have c_239 : E208 (1 + d_156) 11 = .inl (kA 2, 5, .inl tr_178) := (p_211 (1 + d_156) 11 (by omega)).trans c_201
      have c_240 : E208 (1 + d_156) 12 = .inl (kA 2, 5, .inl op_178) := (p_211 (1 + d_156) 12 (by omega)).trans c_203
      have hP : va_P D xcl (rp ad E208 RL) H := hP
      have hD : va_D A (rp ad E208 RL) := hD
      refine lv_aload_n hx hb xd_Me_settleReading_33 rfl (lv_at hl 1 rfl) ?_
      refine px_get (D := D) (ci := 6) (v := .ref (ad (20 + n) (14 + 10 * k))) (C := xR_Me) (T := xT_Me) (N := 6) hx hb hT xi_Me hown hK.1 hP ym0 c_213 rfl 5 (by decide) (hT _ ys3_27) (fun _ h9 => h9) rfl xd_Me_settleReading_34 ?_
      refine lv_aload_n hx hb xd_Me_settleReading_37 rfl (lv_at hl 1 rfl) ?_
      refine px_get (D := D) (ci := 6) (v := .ref (ad (20 + n) (11 + 10 * k))) (C := xR_Me) (T := xT_Me) (N := 6) hx hb hT xi_Me hown hK.1 hP ym0 c_213 rfl 2 (by decide) (hT _ ys3_0) (fun _ h9 => h9) rfl xd_Me_settleReading_38 ?_
      refine lv_iload_n hx hb xd_Me_settleReading_41 rfl (lv_at hl 0 rfl) ?_
      refine px_aald (i := i) (x := (some (ad (20 + x9) (10 + 10 * k9)))) hx hb hK.1 hP ym1 c_214 6 rfl (hq) (by omega) (by omega) xd_Me_settleReading_42 ?_
      refine px_get (D := D) (ci := 6) (v := .ref (ad (20 + x9) (13 + 10 * k9))) (C := xR_Me) (T := xT_Me) (N := 6) hx hb hT xi_Me hown hK.1 hP m_158 c_218 rfl 4 (by decide) (hT _ ys3_16) (fun _ h9 => h9) rfl xd_Me_settleReading_43 ?_
      have hFc := px_free hD hS hA
      refine va_callv (va_runV (As := [.ref (ad (20 + x9) (13 + 10 * k9))]) (rest := []) ⟨hx, hb, hml, hown, hT⟩ (xc_Re_join l D kA H.size ad E208 RL (20 + n) (14 + 10 * k) (17 + 10 * k) w209 (20 + x9) (13 + 10 * k9) (16 + 10 * k9) g3_156 ym3 c_216 ym4 p_210 m_164 c_221 m_170 c_224 (by first | assumption | omega) (by first | assumption | omega)) (cwV 1 hT (wT_V ys3_24 ys3_25 ys3_26 ys3_21 ys3_23) rfl rfl rfl (by decide +kernel) ⟨Nat.le_of_ble_eq_true rfl, Nat.le_of_ble_eq_true rfl⟩) (px_preV hK hP hD ym3 c_216 rfl) rfl rfl hl.1 rfl (lv_room (Nat.le_of_ble_eq_true rfl)) xd_Me_settleReading_46 ⟨(Nat.le_of_ble_eq_true rfl), (Nat.le_of_ble_eq_true rfl)⟩) hS (fun q _ h => hFc q h) hFc (fun u242 t H1 locs ht hvm hp243 hB hz1 hk1 hS => ?_)
      obtain ⟨hP1, hD1⟩ := hB
      rw [ht] at hP1
      have hD1 := hD1.weaken (fun _ _ _ h => hFc _ h)
      generalize H1 = H at hP1 hS ⊢
      have hP := hP1
      have hD := hD1
      obtain ⟨E244, rfl⟩ : ∃ z, z = u242 := ⟨_, rfl⟩
      obtain ⟨w245, hp248, p_246, p_247⟩ := hp243
      have p_246 : E244 (20 + n) (17 + 10 * k) = .inl (kA 0, 6, .inl w245) := p_246
      have p_247 : (∀ b2 o2, ¬ (b2 = (20 + n) ∧ o2 = (17 + 10 * k)) → E244 b2 o2 = E208 b2 o2) := p_247
      have c_249 : E244 (20 + n) (10 + 10 * k) = .inr (6, [.ref (ad (20 + n) 0), .ref (ad (1 + d) 0), .ref (ad (20 + n) (11 + 10 * k)), .ref (ad (20 + n) (12 + 10 * k)), .ref (ad (20 + n) (13 + 10 * k)), .ref (ad (20 + n) (14 + 10 * k))]) := (p_247 (20 + n) (10 + 10 * k) (by omega)).trans c_213
      have c_250 : E244 (20 + n) (11 + 10 * k) = .inl (kA 6, rs, .inr (.inr (.inr (.inr fr)))) := (p_247 (20 + n) (11 + 10 * k) (by omega)).trans c_214
      have c_251 : E244 (20 + n) (13 + 10 * k) = .inr (10, [.ref (ad (20 + n) (16 + 10 * k))]) := (p_247 (20 + n) (13 + 10 * k) (by omega)).trans c_215
      have c_252 : E244 (20 + n) (14 + 10 * k) = .inr (10, [.ref (ad (20 + n) (17 + 10 * k))]) := (p_247 (20 + n) (14 + 10 * k) (by omega)).trans c_216
      have c_253 : E244 (20 + n) (16 + 10 * k) = .inl (kA 0, 6, .inl gb) := (p_247 (20 + n) (16 + 10 * k) (by omega)).trans c_217
      have c_254 : E244 (20 + x9) (10 + 10 * k9) = .inr (6, [.ref (ad (20 + x9) 0), .ref (ad (1 + d_156) 0), .ref (ad (20 + x9) (11 + 10 * k9)), .ref (ad (20 + x9) (12 + 10 * k9)), .ref (ad (20 + x9) (13 + 10 * k9)), .ref (ad (20 + x9) (14 + 10 * k9))]) := (p_247 (20 + x9) (10 + 10 * k9) (by omega)).trans c_218
      have c_255 : E244 (20 + x9) (11 + 10 * k9) = .inl (kA 6, rs_156, .inr (.inr (.inr (.inr fr_156)))) := (p_247 (20 + x9) (11 + 10 * k9) (by omega)).trans c_219
      have c_256 : E244 (20 + x9) (12 + 10 * k9) = .inr (10, [.ref (ad (20 + x9) (15 + 10 * k9))]) := (p_247 (20 + x9) (12 + 10 * k9) (by omega)).trans c_220
      have c_257 : E244 (20 + x9) (13 + 10 * k9) = .inr (10, [.ref (ad (20 + x9) (16 + 10 * k9))]) := (p_247 (20 + x9) (13 + 10 * k9) (by omega)).trans c_221
      have c_258 : E244 (20 + x9) (14 + 10 * k9) = .inr (10, [.ref (ad (20 + x9) (17 + 10 * k9))]) := (p_247 (20 + x9) (14 + 10 * k9) (by omega)).trans c_222
      have c_259 : E244 (20 + x9) (15 + 10 * k9) = .inl (kA 0, 6, .inl g2_156) := (p_247 (20 + x9) (15 + 10 * k9) (by omega)).trans c_223
      have c_260 : E244 (20 + x9) (16 + 10 * k9) = .inl (kA 0, 6, .inl g3_156) := (p_247 (20 + x9) (16 + 10 * k9) (by omega)).trans c_224
      have c_261 : E244 (20 + x9) (17 + 10 * k9) = .inl (kA 0, 6, .inl g4_156) := (p_247 (20 + x9) (17 + 10 * k9) (by omega)).trans c_225
      have c_262 : E244 (20 + x9) 0 = .inr (5, [.int (nI x9), pv_173, .ref (ad (20 + x9) 1), .int op_173]) := (p_247 (20 + x9) 0 (by omega)).trans c_226
      have c_263 : E244 (20 + x9) 1 = .inl (kA 6, mk_173, .inr (.inr (.inr (.inr fm_173)))) := (p_247 (20 + x9) 1 (by omega)).trans c_227
      have c_264 : E244 (1 + d_156) 0 = .inr (7, [.int (nI d_156), .int fd_178, .int nm_178, .ref (ad (1 + d_156) 1), .ref (ad (1 + d_156) 9), .ref (ad (1 + d_156) 10), .ref (ad (1 + d_156) 2), .ref (ad (1 + d_156) 11), .ref (ad (1 + d_156) 12), .ref (ad (1 + d_156) 3), .ref (ad (1 + d_156) 4), .int sd_178]) := (p_247 (1 + d_156) 0 (by omega)).trans c_228
      have c_265 : E244 (1 + d_156) 1 = .inr (8, [.ref (ad (1 + d_156) 5), .int (nI k0_178)]) := (p_247 (1 + d_156) 1 (by omega)).trans c_229
      have c_266 : E244 (1 + d_156) 2 = .inr (8, [.ref (ad (1 + d_156) 6), .int (nI k1_178)]) := (p_247 (1 + d_156) 2 (by omega)).trans c_230
      have c_267 : E244 (1 + d_156) 3 = .inr (8, [.ref (ad (1 + d_156) 7), .int (nI k2_178)]) := (p_247 (1 + d_156) 3 (by omega)).trans c_231
      have c_268 : E244 (1 + d_156) 4 = .inr (8, [.ref (ad (1 + d_156) 8), .int (nI k3_178)]) := (p_247 (1 + d_156) 4 (by omega)).trans c_232
      have c_269 : E244 (1 + d_156) 5 = .inl (kA 0, 6, .inl f0_178) := (p_247 (1 + d_156) 5 (by omega)).trans c_233
      have c_270 : E244 (1 + d_156) 6 = .inl (kA 0, 5, .inl f1_178) := (p_247 (1 + d_156) 6 (by omega)).trans c_234
      have c_271 : E244 (1 + d_156) 7 = .inl (kA 0, 3, .inl f2_178) := (p_247 (1 + d_156) 7 (by omega)).trans c_235
      have c_272 : E244 (1 + d_156) 8 = .inl (kA 0, 3, .inl f3_178) := (p_247 (1 + d_156) 8 (by omega)).trans c_236
      have c_273 : E244 (1 + d_156) 9 = .inl (kA 8, 6, .inr (.inr (.inr (.inr fe_178)))) := (p_247 (1 + d_156) 9 (by omega)).trans c_237
      have c_274 : E244 (1 + d_156) 10 = .inl (kA 8, 6, .inr (.inr (.inr (.inr fo_178)))) := (p_247 (1 + d_156) 10 (by omega)).trans c_238
      have c_275 : E244 (1 + d_156) 11 = .inl (kA 2, 5, .inl tr_178) := (p_247 (1 + d_156) 11 (by omega)).trans c_239
      have c_276 : E244 (1 + d_156) 12 = .inl (kA 2, 5, .inl op_178) := (p_247 (1 + d_156) 12 (by omega)).trans c_240
      have hP : va_P D xcl (rp ad E244 RL) H := hP
      have hD : va_D A (rp ad E244 RL) := hD
      refine lv_iinc (k := 0) (x := (nI i)) (v := (nI (i + 1))) hx hb xd_Me_settleReading_49 hl rfl (xb_inc i 1) (Nat.le_of_ble_eq_true rfl) rfl (fun ls hl => ?_)
      have hl : lv_has ls 2 [(1, .int (nI (i + 1))), (0, .ref (ad (20 + n) (10 + 10 * k)))] := hl
      refine lv_goto (tgt := 2) hx hb xd_Me_settleReading_52 (by decide) ?_
      exact ih1 (i + 1, E244, w245) _ _ _ (show rs - (i + 1) < rs - i by omega) (lv_sub hl [0, 1] rfl) hP hD hS ⟨(show (i + 1) ≤ rs from by first | assumption | omega), (show E244 (20 + n) (17 + 10 * k) = .inl (kA 0, 6, .inl w245) from p_246), (show ∀ b2 o2, ¬ (b2 = 20 + n ∧ o2 = 17 + 10 * k) → E244 b2 o2 = E b2 o2 from fun b2 o2 h09 => by rw [p_247 b2 o2 (by omega), p_211 b2 o2 (by omega), hfr b2 o2 (by omega)])⟩
set_option maxHeartbeats 4000000 in
set_option maxRecDepth 100000 in
theorem xc_Ly_followL (l : Launch) (D : va_G) (kA : Nat → ClassId) (sz : Nat) (ad : Nat → Nat → Nat) (E : Nat → Nat → va_E) (RL : List (Nat × Nat)) (nd : Nat) (nL : Nat) (n : Nat) (pv : Value) (lo : Int32) (mk : Nat) (fm : Nat → Option Nat) (fs : Nat → Option Nat) (ym0 : (20 + n, 0) ∈ RL) (yc0 : E (20 + n) 0 = .inr (5, [.int (nI n), pv, .ref (ad (20 + n) 1), .int lo])) (ym1 : (20 + n, 1) ∈ RL) (yc1 : E (20 + n) 1 = .inl (kA 6, mk, .inr (.inr (.inr (.inr fm))))) (ym2 : (20 + n, 2) ∈ RL) (yc2 : E (20 + n) 2 = .inl (kA 7, mk, .inr (.inr (.inr (.inr fs))))) (hDIs : DIs kA ad E RL nd) (hLIs : LIs kA ad E RL nd nL) (hnd12 : nd ≤ 12) (hnL : nL ≤ 6) (hn : n < nL) (hmk : mk ≤ 12) (hfm : ∀ k, k < mk → fm k = some (ad (20 + n) (10 + 10 * k)) ∧ MEI kA ad E RL nd n k) (hfs : ∀ k, k < mk → fs k = some (ad (20 + n) (12 + 10 * k))) : Met l xy_Ly_follow (.code xy_Ly_follow xb_Ly_follow 4 none :: wT) { frames := 1, cells := 0, slots := 0, locals := 22 } (va_Pc [.ref (ad (20 + n) 0), .ref (ad (20 + n) 2)] (xPre D kA sz (rp ad E RL))) (va_Qv (fun (u : Nat → Nat → va_E) => RI kA (20 + n) E u) (fun (u : Nat → Nat → va_E) t => va_P D xcl (rp ad u RL) t.heap ∧ va_D (va_A (rp ad E RL) sz) (rp ad u RL)) (va_A (rp ad E RL) sz)) 0 0 (va_A (rp ad E RL) sz) := by
  refine Met.ofW (cc := xb_Ly_follow) (maxL := 4) (ret := none) (by decide) rfl ?_
  intro p e s m args below meth c s₁ B hml hv
  obtain ⟨rfl, hsz, hP, hK, hD0⟩ := hv
  have hx := B.exec
  have hb := B.bytes
  have hr := B.returns
  have hT := x_hT B.pre
  have hown : s.vm.findClass xR_Ly = some m.cls := findClass_of_methodNamed B.named
  have hlocks := B.notSynchronized
  subst hsz
  have hD := hD0.self (sz := s.heap.size)
  generalize hAe : va_A (rp ad E RL) s.heap.size = A at hD ⊢
  have hA : ∀ q : Nat, s.heap.size ≤ q → A q := fun q h => by rw [← hAe]; exact Or.inr h
  have hS : va_S A s.heap s.heap [] := va_S.rf
  have hl := lv_entry ([.ref (ad (20 + n) 0), .ref (ad (20 + n) 2)]) (n := 4) (Nat.le_of_ble_eq_true rfl)
  rw [lg_entry_eq]
  generalize (lg_sl ([.ref (ad (20 + n) 0), .ref (ad (20 + n) 2)]) ++ List.replicate (4 - (lg_sl ([.ref (ad (20 + n) 0), .ref (ad (20 + n) 2)])).length) Slot.unset).toArray = ls at hl ⊢
  have hl : lv_has ls 4 [(0, .ref (ad (20 + n) 0)), (1, .ref (ad (20 + n) 2))] := hl
  have hP : va_P D xcl (rp ad E RL) s.heap := hP
  have hDIs0 := hDIs
  have hLIs0 := hLIs
  refine lv_iconst (v := 0) hx hb xd_Ly_follow_0 (by decide) ?_
  refine lv_istore_n hx hb xd_Ly_follow_1 rfl hl (Nat.le_of_ble_eq_true rfl) rfl (fun ls hl => ?_)
  have hl : lv_has ls 4 [(2, .int 0), (0, .ref (ad (20 + n) 0)), (1, .ref (ad (20 + n) 2))] := hl
  refine xlab (σ := Nat × (Nat → Nat → va_E)) (ml := 4) 2 (fun (via, E1) => [(2, .int (nI via)), (1, .ref (ad (20 + n) 2)), (0, .ref (ad (20 + n) 0))]) (fun (via, E1) => []) (fun (via, E1) => rp ad E1 RL) (fun (via, E1) => (via ≤ mk) ∧ (RI kA (20 + n) E E1)) (fun (via, E1) => mk - via) ?_ (0, E) _ _ _ (lv_sub hl [0, 2, 1] rfl) hP hD hS ⟨(show 0 ≤ mk from by first | assumption | omega), (show RI kA (20 + n) E E from RI.rfl')⟩
  intro n9 ih1 a9 ls H locs hμ hl hP hD hS hI
  subst hμ
  obtain ⟨via, E1⟩ := a9
  obtain ⟨hi, hRI⟩ := hI
  have hi : via ≤ mk := hi
  have hRI : RI kA (20 + n) E E1 := hRI
  have hl : lv_has ls 4 [(2, .int (nI via)), (1, .ref (ad (20 + n) 2)), (0, .ref (ad (20 + n) 0))] := hl
  have hP : va_P D xcl (rp ad E1 RL) H := hP
  have hD : va_D A (rp ad E1 RL) := hD
  have hDIs := DIs_RU hRI.ru hnd12 hDIs0
  have hLIs := LIs_RU hRI.ru hLIs0
  have hk9 : ∀ k, k < mk → fm k = some (ad (20 + n) (10 + 10 * k)) ∧ MEI kA ad E1 RL nd n k := fun k h => ⟨(hfm k h).1, MEI_RU hRI.ru (hfm k h).2⟩
  have c_2 : E1 (20 + n) 0 = .inr (5, [.int (nI n), pv, .ref (ad (20 + n) 1), .int lo]) := hRI.obj yc0
  have c_3 : E1 (20 + n) 1 = .inl (kA 6, mk, .inr (.inr (.inr (.inr fm)))) := hRI.arr yc1
  have c_4 : E1 (20 + n) 2 = .inl (kA 7, mk, .inr (.inr (.inr (.inr fs)))) := hRI.arr yc2
  refine lv_iload_n hx hb xd_Ly_follow_2 rfl (lv_at hl 0 rfl) ?_
  refine lv_aload_n hx hb xd_Ly_follow_3 rfl (lv_at hl 2 rfl) ?_
  refine px_get (D := D) (ci := 5) (v := .ref (ad (20 + n) 1)) (C := xR_Ly) (T := xT_Ly) (N := 4) hx hb hT xi_Ly hown hK.1 hP ym0 c_2 rfl 2 (by decide) (hT _ ys3_32) (fun _ h9 => h9) rfl xd_Ly_follow_4 ?_
  refine px_alen hx hb hK.1 hP ym1 c_3 6 rfl xd_Ly_follow_7 ?_
  refine W.eq (g2 := F0 m 8 ls [.int (nI mk), .int (nI via)]) rfl ?_
  refine xn_ge (a := via) (b := mk) (tgt := 58) hx hb xd_Ly_follow_8 (by decide) (by omega) (by omega) (fun hc5 => ?_) (fun hc5 => ?_)
  · exact W.vret hx hb hr (fun t ht hW => ⟨⟨E1, rfl, hRI, by rw [ht]; exact hP, hD⟩, hS.F ht⟩) hS.2.2 xd_Ly_follow_58
  · refine lv_iconst (v := 0) hx hb xd_Ly_follow_11 (by decide) ?_
    refine lv_istore_n hx hb xd_Ly_follow_12 rfl hl (Nat.le_of_ble_eq_true rfl) rfl (fun ls hl => ?_)
    have hl : lv_has ls 4 [(3, .int 0), (2, .int (nI via)), (1, .ref (ad (20 + n) 2)), (0, .ref (ad (20 + n) 0))] := hl
    refine xlab (σ := Nat × (Nat → Nat → va_E)) (ml := 4) 13 (fun (k, E3) => [(3, .int (nI k)), (2, .int (nI via)), (1, .ref (ad (20 + n) 2)), (0, .ref (ad (20 + n) 0))]) (fun (k, E3) => []) (fun (k, E3) => rp ad E3 RL) (fun (k, E3) => (k ≤ mk) ∧ (RI kA (20 + n) E E3)) (fun (k, E3) => mk - k) ?_ (0, E1) _ _ _ (lv_sub hl [0, 1, 2, 3] rfl) hP hD hS ⟨(show 0 ≤ mk from by first | assumption | omega), (show RI kA (20 + n) E E1 from hRI)⟩
    intro n9 ih6 a9 ls H locs hμ hl hP hD hS hI
    subst hμ
    obtain ⟨k, E3⟩ := a9
    obtain ⟨hk0, hRI⟩ := hI
    have hk0 : k ≤ mk := hk0
    have hRI : RI kA (20 + n) E E3 := hRI
    have hl : lv_has ls 4 [(3, .int (nI k)), (2, .int (nI via)), (1, .ref (ad (20 + n) 2)), (0, .ref (ad (20 + n) 0))] := hl
    have hP : va_P D xcl (rp ad E3 RL) H := hP
    have hD : va_D A (rp ad E3 RL) := hD
    have hDIs := DIs_RU hRI.ru hnd12 hDIs0
    have hLIs := LIs_RU hRI.ru hLIs0
    have hk9 : ∀ k, k < mk → fm k = some (ad (20 + n) (10 + 10 * k)) ∧ MEI kA ad E3 RL nd n k := fun k h => ⟨(hfm k h).1, MEI_RU hRI.ru (hfm k h).2⟩
    have c_7 : E3 (20 + n) 0 = .inr (5, [.int (nI n), pv, .ref (ad (20 + n) 1), .int lo]) := hRI.obj yc0
    have c_8 : E3 (20 + n) 1 = .inl (kA 6, mk, .inr (.inr (.inr (.inr fm)))) := hRI.arr yc1
    have c_9 : E3 (20 + n) 2 = .inl (kA 7, mk, .inr (.inr (.inr (.inr fs)))) := hRI.arr yc2
    refine lv_iload_n hx hb xd_Ly_follow_13 rfl (lv_at hl 0 rfl) ?_
    refine lv_aload_n hx hb xd_Ly_follow_14 rfl (lv_at hl 3 rfl) ?_
    refine px_get (D := D) (ci := 5) (v := .ref (ad (20 + n) 1)) (C := xR_Ly) (T := xT_Ly) (N := 4) hx hb hT xi_Ly hown hK.1 hP ym0 c_7 rfl 2 (by decide) (hT _ ys3_32) (fun _ h9 => h9) rfl xd_Ly_follow_15 ?_
    refine px_alen hx hb hK.1 hP ym1 c_8 6 rfl xd_Ly_follow_18 ?_
    refine W.eq (g2 := F0 m 19 ls [.int (nI mk), .int (nI k)]) rfl ?_
    refine xn_ge (a := k) (b := mk) (tgt := 52) hx hb xd_Ly_follow_19 (by decide) (by omega) (by omega) (fun hc10 => ?_) (fun hc10 => ?_)
    · refine lv_iinc (k := 1) (x := (nI via)) (v := (nI (via + 1))) hx hb xd_Ly_follow_52 hl rfl (xb_inc via 1) (Nat.le_of_ble_eq_true rfl) rfl (fun ls hl => ?_)
      have hl : lv_has ls 4 [(2, .int (nI (via + 1))), (3, .int (nI k)), (1, .ref (ad (20 + n) 2)), (0, .ref (ad (20 + n) 0))] := hl
      refine lv_goto (tgt := 2) hx hb xd_Ly_follow_55 (by decide) ?_
      exact ih1 (via + 1, E3) _ _ _ (show mk - (via + 1) < mk - via by omega) (lv_sub hl [0, 2, 3] rfl) hP hD hS ⟨(show (via + 1) ≤ mk from by first | assumption | omega), (show RI kA (20 + n) E E3 from hRI)⟩
    · have hM11 := (hk9 k (by omega)).2
      obtain ⟨hm_12, d_12, rs_12, fr_12, g2_12, g3_12, g4_12, hd_12, hrs_12, q0_12, q1_12, q2_12, q3_12, q4_12, q5_12, q6_12, q7_12⟩ := id hM11
      have c_13 : E3 (20 + n) (10 + 10 * k) = .inr (6, [.ref (ad (20 + n) 0), .ref (ad (1 + d_12) 0), .ref (ad (20 + n) (11 + 10 * k)), .ref (ad (20 + n) (12 + 10 * k)), .ref (ad (20 + n) (13 + 10 * k)), .ref (ad (20 + n) (14 + 10 * k))]) := q0_12
      have m_14 : (20 + n, 10 + 10 * k) ∈ RL := hm_12 0 (by omega)
      have c_15 : E3 (20 + n) (11 + 10 * k) = .inl (kA 6, rs_12, .inr (.inr (.inr (.inr fr_12)))) := q1_12
      have m_16 : (20 + n, 11 + 10 * k) ∈ RL := hm_12 1 (by omega)
      have c_17 : E3 (20 + n) (12 + 10 * k) = .inr (10, [.ref (ad (20 + n) (15 + 10 * k))]) := q2_12
      have m_18 : (20 + n, 12 + 10 * k) ∈ RL := hm_12 2 (by omega)
      have c_19 : E3 (20 + n) (13 + 10 * k) = .inr (10, [.ref (ad (20 + n) (16 + 10 * k))]) := q3_12
      have m_20 : (20 + n, 13 + 10 * k) ∈ RL := hm_12 3 (by omega)
      have c_21 : E3 (20 + n) (14 + 10 * k) = .inr (10, [.ref (ad (20 + n) (17 + 10 * k))]) := q4_12
      have m_22 : (20 + n, 14 + 10 * k) ∈ RL := hm_12 4 (by omega)
      have c_23 : E3 (20 + n) (15 + 10 * k) = .inl (kA 0, 6, .inl g2_12) := q5_12
      have m_24 : (20 + n, 15 + 10 * k) ∈ RL := hm_12 5 (by omega)
      have c_25 : E3 (20 + n) (16 + 10 * k) = .inl (kA 0, 6, .inl g3_12) := q6_12
      have m_26 : (20 + n, 16 + 10 * k) ∈ RL := hm_12 6 (by omega)
      have c_27 : E3 (20 + n) (17 + 10 * k) = .inl (kA 0, 6, .inl g4_12) := q7_12
      have m_28 : (20 + n, 17 + 10 * k) ∈ RL := hm_12 7 (by omega)
      have hM29 := (hk9 via (by omega)).2
      obtain ⟨hm_30, d_30, rs_30, fr_30, g2_30, g3_30, g4_30, hd_30, hrs_30, q0_30, q1_30, q2_30, q3_30, q4_30, q5_30, q6_30, q7_30⟩ := id hM29
      have c_31 : E3 (20 + n) (10 + 10 * via) = .inr (6, [.ref (ad (20 + n) 0), .ref (ad (1 + d_30) 0), .ref (ad (20 + n) (11 + 10 * via)), .ref (ad (20 + n) (12 + 10 * via)), .ref (ad (20 + n) (13 + 10 * via)), .ref (ad (20 + n) (14 + 10 * via))]) := q0_30
      have m_32 : (20 + n, 10 + 10 * via) ∈ RL := hm_30 0 (by omega)
      have c_33 : E3 (20 + n) (11 + 10 * via) = .inl (kA 6, rs_30, .inr (.inr (.inr (.inr fr_30)))) := q1_30
      have m_34 : (20 + n, 11 + 10 * via) ∈ RL := hm_30 1 (by omega)
      have c_35 : E3 (20 + n) (12 + 10 * via) = .inr (10, [.ref (ad (20 + n) (15 + 10 * via))]) := q2_30
      have m_36 : (20 + n, 12 + 10 * via) ∈ RL := hm_30 2 (by omega)
      have c_37 : E3 (20 + n) (13 + 10 * via) = .inr (10, [.ref (ad (20 + n) (16 + 10 * via))]) := q3_30
      have m_38 : (20 + n, 13 + 10 * via) ∈ RL := hm_30 3 (by omega)
      have c_39 : E3 (20 + n) (14 + 10 * via) = .inr (10, [.ref (ad (20 + n) (17 + 10 * via))]) := q4_30
      have m_40 : (20 + n, 14 + 10 * via) ∈ RL := hm_30 4 (by omega)
      have c_41 : E3 (20 + n) (15 + 10 * via) = .inl (kA 0, 6, .inl g2_30) := q5_30
      have m_42 : (20 + n, 15 + 10 * via) ∈ RL := hm_30 5 (by omega)
      have c_43 : E3 (20 + n) (16 + 10 * via) = .inl (kA 0, 6, .inl g3_30) := q6_30
      have m_44 : (20 + n, 16 + 10 * via) ∈ RL := hm_30 6 (by omega)
      have c_45 : E3 (20 + n) (17 + 10 * via) = .inl (kA 0, 6, .inl g4_30) := q7_30
      have m_46 : (20 + n, 17 + 10 * via) ∈ RL := hm_30 7 (by omega)
      refine lv_aload_n hx hb xd_Ly_follow_22 rfl (lv_at hl 2 rfl) ?_
      refine lv_iload_n hx hb xd_Ly_follow_23 rfl (lv_at hl 0 rfl) ?_
      refine px_aald (i := k) (x := (some (ad (20 + n) (12 + 10 * k)))) hx hb hK.1 hP ym2 c_9 7 rfl (hfs k (by omega)) (by omega) (by omega) xd_Ly_follow_24 ?_
      refine lv_aload_n hx hb xd_Ly_follow_25 rfl (lv_at hl 3 rfl) ?_
      refine px_get (D := D) (ci := 5) (v := .ref (ad (20 + n) 1)) (C := xR_Ly) (T := xT_Ly) (N := 4) hx hb hT xi_Ly hown hK.1 hP ym0 c_7 rfl 2 (by decide) (hT _ ys3_32) (fun _ h9 => h9) rfl xd_Ly_follow_26 ?_
      refine lv_iload_n hx hb xd_Ly_follow_29 rfl (lv_at hl 1 rfl) ?_
      refine px_aald (i := via) (x := (some (ad (20 + n) (10 + 10 * via)))) hx hb hK.1 hP ym1 c_8 6 rfl ((hk9 via (by omega)).1) (by omega) (by omega) xd_Ly_follow_30 ?_
      obtain ⟨hm_47, fd_47, nm_47, sd_47, k0_47, k1_47, k2_47, k3_47, f0_47, f1_47, f2_47, f3_47, fe_47, fo_47, tr_47, op_47, hk0_47, hk1_47, hk2_47, hk3_47, q0_47, q1_47, q2_47, q3_47, q4_47, q5_47, q6_47, q7_47, q8_47, q9_47, q10_47, q11_47, q12_47, hg_47⟩ := id (hDIs d_30 (by omega))
      have c_48 : E3 (1 + d_30) 0 = .inr (7, [.int (nI d_30), .int fd_47, .int nm_47, .ref (ad (1 + d_30) 1), .ref (ad (1 + d_30) 9), .ref (ad (1 + d_30) 10), .ref (ad (1 + d_30) 2), .ref (ad (1 + d_30) 11), .ref (ad (1 + d_30) 12), .ref (ad (1 + d_30) 3), .ref (ad (1 + d_30) 4), .int sd_47]) := q0_47
      have m_49 : (1 + d_30, 0) ∈ RL := hm_47 0 (by omega)
      have c_50 : E3 (1 + d_30) 1 = .inr (8, [.ref (ad (1 + d_30) 5), .int (nI k0_47)]) := q1_47
      have m_51 : (1 + d_30, 1) ∈ RL := hm_47 1 (by omega)
      have c_52 : E3 (1 + d_30) 2 = .inr (8, [.ref (ad (1 + d_30) 6), .int (nI k1_47)]) := q2_47
      have m_53 : (1 + d_30, 2) ∈ RL := hm_47 2 (by omega)
      have c_54 : E3 (1 + d_30) 3 = .inr (8, [.ref (ad (1 + d_30) 7), .int (nI k2_47)]) := q3_47
      have m_55 : (1 + d_30, 3) ∈ RL := hm_47 3 (by omega)
      have c_56 : E3 (1 + d_30) 4 = .inr (8, [.ref (ad (1 + d_30) 8), .int (nI k3_47)]) := q4_47
      have m_57 : (1 + d_30, 4) ∈ RL := hm_47 4 (by omega)
      have c_58 : E3 (1 + d_30) 5 = .inl (kA 0, 6, .inl f0_47) := q5_47
      have m_59 : (1 + d_30, 5) ∈ RL := hm_47 5 (by omega)
      have c_60 : E3 (1 + d_30) 6 = .inl (kA 0, 5, .inl f1_47) := q6_47
      have m_61 : (1 + d_30, 6) ∈ RL := hm_47 6 (by omega)
      have c_62 : E3 (1 + d_30) 7 = .inl (kA 0, 3, .inl f2_47) := q7_47
      have m_63 : (1 + d_30, 7) ∈ RL := hm_47 7 (by omega)
      have c_64 : E3 (1 + d_30) 8 = .inl (kA 0, 3, .inl f3_47) := q8_47
      have m_65 : (1 + d_30, 8) ∈ RL := hm_47 8 (by omega)
      have c_66 : E3 (1 + d_30) 9 = .inl (kA 8, 6, .inr (.inr (.inr (.inr fe_47)))) := q9_47
      have m_67 : (1 + d_30, 9) ∈ RL := hm_47 9 (by omega)
      have c_68 : E3 (1 + d_30) 10 = .inl (kA 8, 6, .inr (.inr (.inr (.inr fo_47)))) := q10_47
      have m_69 : (1 + d_30, 10) ∈ RL := hm_47 10 (by omega)
      have c_70 : E3 (1 + d_30) 11 = .inl (kA 2, 5, .inl tr_47) := q11_47
      have m_71 : (1 + d_30, 11) ∈ RL := hm_47 11 (by omega)
      have c_72 : E3 (1 + d_30) 12 = .inl (kA 2, 5, .inl op_47) := q12_47
      have m_73 : (1 + d_30, 12) ∈ RL := hm_47 12 (by omega)
      have hg_47 : ∀ w9, w9 < k0_47 → fe_47 w9 = some (ad (1 + d_30) (20 + 3 * w9)) ∧ fo_47 w9 = some (ad (1 + d_30) (38 + 3 * w9)) ∧ GI kA (ad (1 + d_30)) (E3 (1 + d_30)) (fun o => (1 + d_30, o) ∈ RL) (20 + 3 * w9) (21 + 3 * w9) (22 + 3 * w9) ∧ GI kA (ad (1 + d_30)) (E3 (1 + d_30)) (fun o => (1 + d_30, o) ∈ RL) (38 + 3 * w9) (39 + 3 * w9) (40 + 3 * w9) := hg_47
      have hFc := px_free hD hS hA
      refine va_calli (va_runV (As := [.ref (ad (20 + n) (10 + 10 * via))]) (rest := []) ⟨hx, hb, hml, hown, hT⟩ (xc_Re_marks l D kA H.size ad E3 RL (20 + n) (12 + 10 * k) (15 + 10 * k) g2_12 n via d_30 pv lo fd_47 nm_47 sd_47 m_18 c_17 m_24 c_23 m_32 c_31 ym0 c_7 m_49 c_48 (by first | assumption | omega)) (cwV 1 hT (wT_V ys3_34 ys3_35 ys3_36 ys3_21 ys3_33) rfl rfl rfl (by decide +kernel) ⟨Nat.le_of_ble_eq_true rfl, Nat.le_of_ble_eq_true rfl⟩) (px_preV hK hP hD m_18 c_17 rfl) rfl rfl hl.1 rfl (lv_room (Nat.le_of_ble_eq_true rfl)) xd_Ly_follow_31 ⟨(Nat.le_of_ble_eq_true rfl), (Nat.le_of_ble_eq_true rfl)⟩) hS (fun q _ h => hFc q h) hFc (fun r74 u75 t H1 locs ht hvm hp76 hB hz1 hk1 hS => ?_)
      obtain ⟨hP1, hD1⟩ := hB
      rw [ht] at hP1
      have hD1 := hD1.weaken (fun _ _ _ h => hFc _ h)
      generalize H1 = H at hP1 hS ⊢
      have hP := hP1
      have hD := hD1
      have hP : va_P D xcl (rp ad E3 RL) H := hP
      have hD : va_D A (rp ad E3 RL) := hD
      rcases hp76 with ⟨rfl, z77⟩ | ⟨rfl, z78⟩
      · refine W.eq (g2 := F0 m 34 ls [.int 1]) rfl ?_
        refine lv_if_eq (tgt := 46) hx hb xd_Ly_follow_34 (by decide) (fun hc79 => absurd hc79 (by decide)) (fun _ => ?_)
        by_cases hkv : k = via
        · rw [hkv] at hl
          have hl : lv_has ls 4 [(3, .int (nI via)), (2, .int (nI via)), (1, .ref (ad (20 + n) 2)), (0, .ref (ad (20 + n) 0))] := hl
          refine lv_aload_n hx hb xd_Ly_follow_37 rfl (lv_at hl 2 rfl) ?_
          refine lv_iload_n hx hb xd_Ly_follow_38 rfl (lv_at hl 0 rfl) ?_
          refine px_aald (i := via) (x := (some (ad (20 + n) (12 + 10 * via)))) hx hb hK.1 hP ym2 c_9 7 rfl (hfs via (by omega)) (by omega) (by omega) xd_Ly_follow_39 ?_
          refine lv_aload_n hx hb xd_Ly_follow_40 rfl (lv_at hl 2 rfl) ?_
          refine lv_iload_n hx hb xd_Ly_follow_41 rfl (lv_at hl 1 rfl) ?_
          refine px_aald (i := via) (x := (some (ad (20 + n) (12 + 10 * via)))) hx hb hK.1 hP ym2 c_9 7 rfl (hfs via (by omega)) (by omega) (by omega) xd_Ly_follow_42 ?_
          have hFc := px_free hD hS hA
          refine va_callv (va_runV (As := [.ref (ad (20 + n) (12 + 10 * via))]) (rest := []) ⟨hx, hb, hml, hown, hT⟩ (xc_Re_joinS l D kA H.size ad E3 RL (20 + n) (12 + 10 * via) (15 + 10 * via) g2_30 m_36 c_35 m_42 c_41 (by first | assumption | omega)) (cwV 1 hT (wT_V ys3_37 ys3_25 ys3_26 ys3_21 ys3_23) rfl rfl rfl (by decide +kernel) ⟨Nat.le_of_ble_eq_true rfl, Nat.le_of_ble_eq_true rfl⟩) (px_preV hK hP hD m_36 c_35 rfl) rfl rfl hl.1 rfl (lv_room (Nat.le_of_ble_eq_true rfl)) xd_Ly_follow_43 ⟨(Nat.le_of_ble_eq_true rfl), (Nat.le_of_ble_eq_true rfl)⟩) hS (fun q _ h => hFc q h) hFc (fun u81 t H1 locs ht hvm hp82 hB hz1 hk1 hS => ?_)
          obtain ⟨hP1, hD1⟩ := hB
          rw [ht] at hP1
          have hD1 := hD1.weaken (fun _ _ _ h => hFc _ h)
          generalize H1 = H at hP1 hS ⊢
          have hP := hP1
          have hD := hD1
          obtain ⟨E83, rfl⟩ : ∃ z, z = u81 := ⟨_, rfl⟩
          obtain ⟨w84, hp87, p_85, p_86⟩ := hp82
          have p_85 : E83 (20 + n) (15 + 10 * via) = .inl (kA 0, 6, .inl w84) := p_85
          have p_86 : (∀ b2 o2, ¬ (b2 = (20 + n) ∧ o2 = (15 + 10 * via)) → E83 b2 o2 = E3 b2 o2) := p_86
          have c_88 : E83 (20 + n) 0 = .inr (5, [.int (nI n), pv, .ref (ad (20 + n) 1), .int lo]) := (p_86 (20 + n) 0 (by omega)).trans c_7
          have c_89 : E83 (20 + n) 1 = .inl (kA 6, mk, .inr (.inr (.inr (.inr fm)))) := (p_86 (20 + n) 1 (by omega)).trans c_8
          have c_90 : E83 (20 + n) 2 = .inl (kA 7, mk, .inr (.inr (.inr (.inr fs)))) := (p_86 (20 + n) 2 (by omega)).trans c_9
          have c_91 : E83 (20 + n) (10 + 10 * k) = .inr (6, [.ref (ad (20 + n) 0), .ref (ad (1 + d_12) 0), .ref (ad (20 + n) (11 + 10 * k)), .ref (ad (20 + n) (12 + 10 * k)), .ref (ad (20 + n) (13 + 10 * k)), .ref (ad (20 + n) (14 + 10 * k))]) := (p_86 (20 + n) (10 + 10 * k) (by omega)).trans c_13
          have c_92 : E83 (20 + n) (11 + 10 * k) = .inl (kA 6, rs_12, .inr (.inr (.inr (.inr fr_12)))) := (p_86 (20 + n) (11 + 10 * k) (by omega)).trans c_15
          have c_93 : E83 (20 + n) (12 + 10 * k) = .inr (10, [.ref (ad (20 + n) (15 + 10 * k))]) := (p_86 (20 + n) (12 + 10 * k) (by omega)).trans c_17
          have c_94 : E83 (20 + n) (13 + 10 * k) = .inr (10, [.ref (ad (20 + n) (16 + 10 * k))]) := (p_86 (20 + n) (13 + 10 * k) (by omega)).trans c_19
          have c_95 : E83 (20 + n) (14 + 10 * k) = .inr (10, [.ref (ad (20 + n) (17 + 10 * k))]) := (p_86 (20 + n) (14 + 10 * k) (by omega)).trans c_21
          have c_96 : E83 (20 + n) (15 + 10 * k) = .inl (kA 0, 6, .inl g2_12) := (p_86 (20 + n) (15 + 10 * k) (by omega)).trans c_23
          have c_97 : E83 (20 + n) (16 + 10 * k) = .inl (kA 0, 6, .inl g3_12) := (p_86 (20 + n) (16 + 10 * k) (by omega)).trans c_25
          have c_98 : E83 (20 + n) (17 + 10 * k) = .inl (kA 0, 6, .inl g4_12) := (p_86 (20 + n) (17 + 10 * k) (by omega)).trans c_27
          have c_99 : E83 (20 + n) (10 + 10 * via) = .inr (6, [.ref (ad (20 + n) 0), .ref (ad (1 + d_30) 0), .ref (ad (20 + n) (11 + 10 * via)), .ref (ad (20 + n) (12 + 10 * via)), .ref (ad (20 + n) (13 + 10 * via)), .ref (ad (20 + n) (14 + 10 * via))]) := (p_86 (20 + n) (10 + 10 * via) (by omega)).trans c_31
          have c_100 : E83 (20 + n) (11 + 10 * via) = .inl (kA 6, rs_30, .inr (.inr (.inr (.inr fr_30)))) := (p_86 (20 + n) (11 + 10 * via) (by omega)).trans c_33
          have c_101 : E83 (20 + n) (12 + 10 * via) = .inr (10, [.ref (ad (20 + n) (15 + 10 * via))]) := (p_86 (20 + n) (12 + 10 * via) (by omega)).trans c_35
          have c_102 : E83 (20 + n) (13 + 10 * via) = .inr (10, [.ref (ad (20 + n) (16 + 10 * via))]) := (p_86 (20 + n) (13 + 10 * via) (by omega)).trans c_37
          have c_103 : E83 (20 + n) (14 + 10 * via) = .inr (10, [.ref (ad (20 + n) (17 + 10 * via))]) := (p_86 (20 + n) (14 + 10 * via) (by omega)).trans c_39
          have c_104 : E83 (20 + n) (16 + 10 * via) = .inl (kA 0, 6, .inl g3_30) := (p_86 (20 + n) (16 + 10 * via) (by omega)).trans c_43
          have c_105 : E83 (20 + n) (17 + 10 * via) = .inl (kA 0, 6, .inl g4_30) := (p_86 (20 + n) (17 + 10 * via) (by omega)).trans c_45
          have c_106 : E83 (1 + d_30) 0 = .inr (7, [.int (nI d_30), .int fd_47, .int nm_47, .ref (ad (1 + d_30) 1), .ref (ad (1 + d_30) 9), .ref (ad (1 + d_30) 10), .ref (ad (1 + d_30) 2), .ref (ad (1 + d_30) 11), .ref (ad (1 + d_30) 12), .ref (ad (1 + d_30) 3), .ref (ad (1 + d_30) 4), .int sd_47]) := (p_86 (1 + d_30) 0 (by omega)).trans c_48
          have c_107 : E83 (1 + d_30) 1 = .inr (8, [.ref (ad (1 + d_30) 5), .int (nI k0_47)]) := (p_86 (1 + d_30) 1 (by omega)).trans c_50
          have c_108 : E83 (1 + d_30) 2 = .inr (8, [.ref (ad (1 + d_30) 6), .int (nI k1_47)]) := (p_86 (1 + d_30) 2 (by omega)).trans c_52
          have c_109 : E83 (1 + d_30) 3 = .inr (8, [.ref (ad (1 + d_30) 7), .int (nI k2_47)]) := (p_86 (1 + d_30) 3 (by omega)).trans c_54
          have c_110 : E83 (1 + d_30) 4 = .inr (8, [.ref (ad (1 + d_30) 8), .int (nI k3_47)]) := (p_86 (1 + d_30) 4 (by omega)).trans c_56
          have c_111 : E83 (1 + d_30) 5 = .inl (kA 0, 6, .inl f0_47) := (p_86 (1 + d_30) 5 (by omega)).trans c_58
          have c_112 : E83 (1 + d_30) 6 = .inl (kA 0, 5, .inl f1_47) := (p_86 (1 + d_30) 6 (by omega)).trans c_60
          have c_113 : E83 (1 + d_30) 7 = .inl (kA 0, 3, .inl f2_47) := (p_86 (1 + d_30) 7 (by omega)).trans c_62
          have c_114 : E83 (1 + d_30) 8 = .inl (kA 0, 3, .inl f3_47) := (p_86 (1 + d_30) 8 (by omega)).trans c_64
          have c_115 : E83 (1 + d_30) 9 = .inl (kA 8, 6, .inr (.inr (.inr (.inr fe_47)))) := (p_86 (1 + d_30) 9 (by omega)).trans c_66
          have c_116 : E83 (1 + d_30) 10 = .inl (kA 8, 6, .inr (.inr (.inr (.inr fo_47)))) := (p_86 (1 + d_30) 10 (by omega)).trans c_68
          have c_117 : E83 (1 + d_30) 11 = .inl (kA 2, 5, .inl tr_47) := (p_86 (1 + d_30) 11 (by omega)).trans c_70
          have c_118 : E83 (1 + d_30) 12 = .inl (kA 2, 5, .inl op_47) := (p_86 (1 + d_30) 12 (by omega)).trans c_72
          have hP : va_P D xcl (rp ad E83 RL) H := hP
          have hD : va_D A (rp ad E83 RL) := hD
          refine lv_iinc (k := 0) (x := (nI via)) (v := (nI (via + 1))) hx hb xd_Ly_follow_46 hl rfl (xb_inc via 1) (Nat.le_of_ble_eq_true rfl) rfl (fun ls hl => ?_)
          have hl : lv_has ls 4 [(3, .int (nI (via + 1))), (2, .int (nI via)), (1, .ref (ad (20 + n) 2)), (0, .ref (ad (20 + n) 0))] := hl
          refine lv_goto (tgt := 13) hx hb xd_Ly_follow_49 (by decide) ?_
          exact ih6 (via + 1, E83) _ _ _ (show mk - (via + 1) < mk - k by omega) (lv_sub hl [0, 1, 2, 3] rfl) hP hD hS ⟨(show (via + 1) ≤ mk from by first | assumption | omega), (show RI kA (20 + n) E E83 from RI.trans' hRI (RI.row c_41 p_85 p_86))⟩
        · have hkv := hkv
          refine lv_aload_n hx hb xd_Ly_follow_37 rfl (lv_at hl 2 rfl) ?_
          refine lv_iload_n hx hb xd_Ly_follow_38 rfl (lv_at hl 0 rfl) ?_
          refine px_aald (i := k) (x := (some (ad (20 + n) (12 + 10 * k)))) hx hb hK.1 hP ym2 c_9 7 rfl (hfs k (by omega)) (by omega) (by omega) xd_Ly_follow_39 ?_
          refine lv_aload_n hx hb xd_Ly_follow_40 rfl (lv_at hl 2 rfl) ?_
          refine lv_iload_n hx hb xd_Ly_follow_41 rfl (lv_at hl 1 rfl) ?_
          refine px_aald (i := via) (x := (some (ad (20 + n) (12 + 10 * via)))) hx hb hK.1 hP ym2 c_9 7 rfl (hfs via (by omega)) (by omega) (by omega) xd_Ly_follow_42 ?_
          have hFc := px_free hD hS hA
          refine va_callv (va_runV (As := [.ref (ad (20 + n) (12 + 10 * via))]) (rest := []) ⟨hx, hb, hml, hown, hT⟩ (xc_Re_join l D kA H.size ad E3 RL (20 + n) (12 + 10 * k) (15 + 10 * k) g2_12 (20 + n) (12 + 10 * via) (15 + 10 * via) g2_30 m_18 c_17 m_24 c_23 m_36 c_35 m_42 c_41 (by first | assumption | omega) (by first | assumption | omega)) (cwV 1 hT (wT_V ys3_37 ys3_25 ys3_26 ys3_21 ys3_23) rfl rfl rfl (by decide +kernel) ⟨Nat.le_of_ble_eq_true rfl, Nat.le_of_ble_eq_true rfl⟩) (px_preV hK hP hD m_18 c_17 rfl) rfl rfl hl.1 rfl (lv_room (Nat.le_of_ble_eq_true rfl)) xd_Ly_follow_43 ⟨(Nat.le_of_ble_eq_true rfl), (Nat.le_of_ble_eq_true rfl)⟩) hS (fun q _ h => hFc q h) hFc (fun u120 t H1 locs ht hvm hp121 hB hz1 hk1 hS => ?_)
          obtain ⟨hP1, hD1⟩ := hB
          rw [ht] at hP1
          have hD1 := hD1.weaken (fun _ _ _ h => hFc _ h)
          generalize H1 = H at hP1 hS ⊢
          have hP := hP1
          have hD := hD1
          obtain ⟨E122, rfl⟩ : ∃ z, z = u120 := ⟨_, rfl⟩
          obtain ⟨w123, hp126, p_124, p_125⟩ := hp121
          have p_124 : E122 (20 + n) (15 + 10 * k) = .inl (kA 0, 6, .inl w123) := p_124
          have p_125 : (∀ b2 o2, ¬ (b2 = (20 + n) ∧ o2 = (15 + 10 * k)) → E122 b2 o2 = E3 b2 o2) := p_125
          have c_127 : E122 (20 + n) 0 = .inr (5, [.int (nI n), pv, .ref (ad (20 + n) 1), .int lo]) := (p_125 (20 + n) 0 (by omega)).trans c_7
          have c_128 : E122 (20 + n) 1 = .inl (kA 6, mk, .inr (.inr (.inr (.inr fm)))) := (p_125 (20 + n) 1 (by omega)).trans c_8
          have c_129 : E122 (20 + n) 2 = .inl (kA 7, mk, .inr (.inr (.inr (.inr fs)))) := (p_125 (20 + n) 2 (by omega)).trans c_9
          have c_130 : E122 (20 + n) (10 + 10 * k) = .inr (6, [.ref (ad (20 + n) 0), .ref (ad (1 + d_12) 0), .ref (ad (20 + n) (11 + 10 * k)), .ref (ad (20 + n) (12 + 10 * k)), .ref (ad (20 + n) (13 + 10 * k)), .ref (ad (20 + n) (14 + 10 * k))]) := (p_125 (20 + n) (10 + 10 * k) (by omega)).trans c_13
          have c_131 : E122 (20 + n) (11 + 10 * k) = .inl (kA 6, rs_12, .inr (.inr (.inr (.inr fr_12)))) := (p_125 (20 + n) (11 + 10 * k) (by omega)).trans c_15
          have c_132 : E122 (20 + n) (12 + 10 * k) = .inr (10, [.ref (ad (20 + n) (15 + 10 * k))]) := (p_125 (20 + n) (12 + 10 * k) (by omega)).trans c_17
          have c_133 : E122 (20 + n) (13 + 10 * k) = .inr (10, [.ref (ad (20 + n) (16 + 10 * k))]) := (p_125 (20 + n) (13 + 10 * k) (by omega)).trans c_19
          have c_134 : E122 (20 + n) (14 + 10 * k) = .inr (10, [.ref (ad (20 + n) (17 + 10 * k))]) := (p_125 (20 + n) (14 + 10 * k) (by omega)).trans c_21
          have c_135 : E122 (20 + n) (16 + 10 * k) = .inl (kA 0, 6, .inl g3_12) := (p_125 (20 + n) (16 + 10 * k) (by omega)).trans c_25
          have c_136 : E122 (20 + n) (17 + 10 * k) = .inl (kA 0, 6, .inl g4_12) := (p_125 (20 + n) (17 + 10 * k) (by omega)).trans c_27
          have c_137 : E122 (20 + n) (10 + 10 * via) = .inr (6, [.ref (ad (20 + n) 0), .ref (ad (1 + d_30) 0), .ref (ad (20 + n) (11 + 10 * via)), .ref (ad (20 + n) (12 + 10 * via)), .ref (ad (20 + n) (13 + 10 * via)), .ref (ad (20 + n) (14 + 10 * via))]) := (p_125 (20 + n) (10 + 10 * via) (by omega)).trans c_31
          have c_138 : E122 (20 + n) (11 + 10 * via) = .inl (kA 6, rs_30, .inr (.inr (.inr (.inr fr_30)))) := (p_125 (20 + n) (11 + 10 * via) (by omega)).trans c_33
          have c_139 : E122 (20 + n) (12 + 10 * via) = .inr (10, [.ref (ad (20 + n) (15 + 10 * via))]) := (p_125 (20 + n) (12 + 10 * via) (by omega)).trans c_35
          have c_140 : E122 (20 + n) (13 + 10 * via) = .inr (10, [.ref (ad (20 + n) (16 + 10 * via))]) := (p_125 (20 + n) (13 + 10 * via) (by omega)).trans c_37
          have c_141 : E122 (20 + n) (14 + 10 * via) = .inr (10, [.ref (ad (20 + n) (17 + 10 * via))]) := (p_125 (20 + n) (14 + 10 * via) (by omega)).trans c_39
          have c_142 : E122 (20 + n) (15 + 10 * via) = .inl (kA 0, 6, .inl g2_30) := (p_125 (20 + n) (15 + 10 * via) (by omega)).trans c_41
          have c_143 : E122 (20 + n) (16 + 10 * via) = .inl (kA 0, 6, .inl g3_30) := (p_125 (20 + n) (16 + 10 * via) (by omega)).trans c_43
          have c_144 : E122 (20 + n) (17 + 10 * via) = .inl (kA 0, 6, .inl g4_30) := (p_125 (20 + n) (17 + 10 * via) (by omega)).trans c_45
          have c_145 : E122 (1 + d_30) 0 = .inr (7, [.int (nI d_30), .int fd_47, .int nm_47, .ref (ad (1 + d_30) 1), .ref (ad (1 + d_30) 9), .ref (ad (1 + d_30) 10), .ref (ad (1 + d_30) 2), .ref (ad (1 + d_30) 11), .ref (ad (1 + d_30) 12), .ref (ad (1 + d_30) 3), .ref (ad (1 + d_30) 4), .int sd_47]) := (p_125 (1 + d_30) 0 (by omega)).trans c_48
          have c_146 : E122 (1 + d_30) 1 = .inr (8, [.ref (ad (1 + d_30) 5), .int (nI k0_47)]) := (p_125 (1 + d_30) 1 (by omega)).trans c_50
          have c_147 : E122 (1 + d_30) 2 = .inr (8, [.ref (ad (1 + d_30) 6), .int (nI k1_47)]) := (p_125 (1 + d_30) 2 (by omega)).trans c_52
          have c_148 : E122 (1 + d_30) 3 = .inr (8, [.ref (ad (1 + d_30) 7), .int (nI k2_47)]) := (p_125 (1 + d_30) 3 (by omega)).trans c_54
          have c_149 : E122 (1 + d_30) 4 = .inr (8, [.ref (ad (1 + d_30) 8), .int (nI k3_47)]) := (p_125 (1 + d_30) 4 (by omega)).trans c_56
          have c_150 : E122 (1 + d_30) 5 = .inl (kA 0, 6, .inl f0_47) := (p_125 (1 + d_30) 5 (by omega)).trans c_58
          have c_151 : E122 (1 + d_30) 6 = .inl (kA 0, 5, .inl f1_47) := (p_125 (1 + d_30) 6 (by omega)).trans c_60
          have c_152 : E122 (1 + d_30) 7 = .inl (kA 0, 3, .inl f2_47) := (p_125 (1 + d_30) 7 (by omega)).trans c_62
          have c_153 : E122 (1 + d_30) 8 = .inl (kA 0, 3, .inl f3_47) := (p_125 (1 + d_30) 8 (by omega)).trans c_64
          have c_154 : E122 (1 + d_30) 9 = .inl (kA 8, 6, .inr (.inr (.inr (.inr fe_47)))) := (p_125 (1 + d_30) 9 (by omega)).trans c_66
          have c_155 : E122 (1 + d_30) 10 = .inl (kA 8, 6, .inr (.inr (.inr (.inr fo_47)))) := (p_125 (1 + d_30) 10 (by omega)).trans c_68
          have c_156 : E122 (1 + d_30) 11 = .inl (kA 2, 5, .inl tr_47) := (p_125 (1 + d_30) 11 (by omega)).trans c_70
          have c_157 : E122 (1 + d_30) 12 = .inl (kA 2, 5, .inl op_47) := (p_125 (1 + d_30) 12 (by omega)).trans c_72
          have hP : va_P D xcl (rp ad E122 RL) H := hP
          have hD : va_D A (rp ad E122 RL) := hD
          refine lv_iinc (k := 0) (x := (nI k)) (v := (nI (k + 1))) hx hb xd_Ly_follow_46 hl rfl (xb_inc k 1) (Nat.le_of_ble_eq_true rfl) rfl (fun ls hl => ?_)
          have hl : lv_has ls 4 [(3, .int (nI (k + 1))), (2, .int (nI via)), (1, .ref (ad (20 + n) 2)), (0, .ref (ad (20 + n) 0))] := hl
          refine lv_goto (tgt := 13) hx hb xd_Ly_follow_49 (by decide) ?_
          exact ih6 (k + 1, E122) _ _ _ (show mk - (k + 1) < mk - k by omega) (lv_sub hl [0, 1, 2, 3] rfl) hP hD hS ⟨(show (k + 1) ≤ mk from by first | assumption | omega), (show RI kA (20 + n) E E122 from RI.trans' hRI (RI.row c_23 p_124 p_125))⟩
      · refine W.eq (g2 := F0 m 34 ls [.int 0]) rfl ?_
        refine lv_if_eq (tgt := 46) hx hb xd_Ly_follow_34 (by decide) (fun _ => ?_) (fun hc158 => absurd (by decide) hc158)
        refine lv_iinc (k := 0) (x := (nI k)) (v := (nI (k + 1))) hx hb xd_Ly_follow_46 hl rfl (xb_inc k 1) (Nat.le_of_ble_eq_true rfl) rfl (fun ls hl => ?_)
        have hl : lv_has ls 4 [(3, .int (nI (k + 1))), (2, .int (nI via)), (1, .ref (ad (20 + n) 2)), (0, .ref (ad (20 + n) 0))] := hl
        refine lv_goto (tgt := 13) hx hb xd_Ly_follow_49 (by decide) ?_
        exact ih6 (k + 1, E3) _ _ _ (show mk - (k + 1) < mk - k by omega) (lv_sub hl [0, 1, 2, 3] rfl) hP hD hS ⟨(show (k + 1) ≤ mk from by first | assumption | omega), (show RI kA (20 + n) E E3 from hRI)⟩
set_option maxHeartbeats 4000000 in
set_option maxRecDepth 100000 in
theorem xc_Ly_followC (l : Launch) (D : va_G) (kA : Nat → ClassId) (sz : Nat) (ad : Nat → Nat → Nat) (E : Nat → Nat → va_E) (RL : List (Nat × Nat)) (nd : Nat) (nL : Nat) (n : Nat) (pv : Value) (lo : Int32) (mk : Nat) (fm : Nat → Option Nat) (fs : Nat → Option Nat) (ym0 : (20 + n, 0) ∈ RL) (yc0 : E (20 + n) 0 = .inr (5, [.int (nI n), pv, .ref (ad (20 + n) 1), .int lo])) (ym1 : (20 + n, 1) ∈ RL) (yc1 : E (20 + n) 1 = .inl (kA 6, mk, .inr (.inr (.inr (.inr fm))))) (ym2 : (20 + n, 3) ∈ RL) (yc2 : E (20 + n) 3 = .inl (kA 7, mk, .inr (.inr (.inr (.inr fs))))) (hDIs : DIs kA ad E RL nd) (hLIs : LIs kA ad E RL nd nL) (hnd12 : nd ≤ 12) (hnL : nL ≤ 6) (hn : n < nL) (hmk : mk ≤ 12) (hfm : ∀ k, k < mk → fm k = some (ad (20 + n) (10 + 10 * k)) ∧ MEI kA ad E RL nd n k) (hfs : ∀ k, k < mk → fs k = some (ad (20 + n) (13 + 10 * k))) : Met l xy_Ly_follow (.code xy_Ly_follow xb_Ly_follow 4 none :: wT) { frames := 1, cells := 0, slots := 0, locals := 22 } (va_Pc [.ref (ad (20 + n) 0), .ref (ad (20 + n) 3)] (xPre D kA sz (rp ad E RL))) (va_Qv (fun (u : Nat → Nat → va_E) => RI kA (20 + n) E u) (fun (u : Nat → Nat → va_E) t => va_P D xcl (rp ad u RL) t.heap ∧ va_D (va_A (rp ad E RL) sz) (rp ad u RL)) (va_A (rp ad E RL) sz)) 0 0 (va_A (rp ad E RL) sz) := by
  refine Met.ofW (cc := xb_Ly_follow) (maxL := 4) (ret := none) (by decide) rfl ?_
  intro p e s m args below meth c s₁ B hml hv
  obtain ⟨rfl, hsz, hP, hK, hD0⟩ := hv
  have hx := B.exec
  have hb := B.bytes
  have hr := B.returns
  have hT := x_hT B.pre
  have hown : s.vm.findClass xR_Ly = some m.cls := findClass_of_methodNamed B.named
  have hlocks := B.notSynchronized
  subst hsz
  have hD := hD0.self (sz := s.heap.size)
  generalize hAe : va_A (rp ad E RL) s.heap.size = A at hD ⊢
  have hA : ∀ q : Nat, s.heap.size ≤ q → A q := fun q h => by rw [← hAe]; exact Or.inr h
  have hS : va_S A s.heap s.heap [] := va_S.rf
  have hl := lv_entry ([.ref (ad (20 + n) 0), .ref (ad (20 + n) 3)]) (n := 4) (Nat.le_of_ble_eq_true rfl)
  rw [lg_entry_eq]
  generalize (lg_sl ([.ref (ad (20 + n) 0), .ref (ad (20 + n) 3)]) ++ List.replicate (4 - (lg_sl ([.ref (ad (20 + n) 0), .ref (ad (20 + n) 3)])).length) Slot.unset).toArray = ls at hl ⊢
  have hl : lv_has ls 4 [(0, .ref (ad (20 + n) 0)), (1, .ref (ad (20 + n) 3))] := hl
  have hP : va_P D xcl (rp ad E RL) s.heap := hP
  have hDIs0 := hDIs
  have hLIs0 := hLIs
  refine lv_iconst (v := 0) hx hb xd_Ly_follow_0 (by decide) ?_
  refine lv_istore_n hx hb xd_Ly_follow_1 rfl hl (Nat.le_of_ble_eq_true rfl) rfl (fun ls hl => ?_)
  have hl : lv_has ls 4 [(2, .int 0), (0, .ref (ad (20 + n) 0)), (1, .ref (ad (20 + n) 3))] := hl
  refine xlab (σ := Nat × (Nat → Nat → va_E)) (ml := 4) 2 (fun (via, E1) => [(2, .int (nI via)), (1, .ref (ad (20 + n) 3)), (0, .ref (ad (20 + n) 0))]) (fun (via, E1) => []) (fun (via, E1) => rp ad E1 RL) (fun (via, E1) => (via ≤ mk) ∧ (RI kA (20 + n) E E1)) (fun (via, E1) => mk - via) ?_ (0, E) _ _ _ (lv_sub hl [0, 2, 1] rfl) hP hD hS ⟨(show 0 ≤ mk from by first | assumption | omega), (show RI kA (20 + n) E E from RI.rfl')⟩
  intro n9 ih1 a9 ls H locs hμ hl hP hD hS hI
  subst hμ
  obtain ⟨via, E1⟩ := a9
  obtain ⟨hi, hRI⟩ := hI
  have hi : via ≤ mk := hi
  have hRI : RI kA (20 + n) E E1 := hRI
  have hl : lv_has ls 4 [(2, .int (nI via)), (1, .ref (ad (20 + n) 3)), (0, .ref (ad (20 + n) 0))] := hl
  have hP : va_P D xcl (rp ad E1 RL) H := hP
  have hD : va_D A (rp ad E1 RL) := hD
  have hDIs := DIs_RU hRI.ru hnd12 hDIs0
  have hLIs := LIs_RU hRI.ru hLIs0
  have hk9 : ∀ k, k < mk → fm k = some (ad (20 + n) (10 + 10 * k)) ∧ MEI kA ad E1 RL nd n k := fun k h => ⟨(hfm k h).1, MEI_RU hRI.ru (hfm k h).2⟩
  have c_2 : E1 (20 + n) 0 = .inr (5, [.int (nI n), pv, .ref (ad (20 + n) 1), .int lo]) := hRI.obj yc0
  have c_3 : E1 (20 + n) 1 = .inl (kA 6, mk, .inr (.inr (.inr (.inr fm)))) := hRI.arr yc1
  have c_4 : E1 (20 + n) 3 = .inl (kA 7, mk, .inr (.inr (.inr (.inr fs)))) := hRI.arr yc2
  refine lv_iload_n hx hb xd_Ly_follow_2 rfl (lv_at hl 0 rfl) ?_
  refine lv_aload_n hx hb xd_Ly_follow_3 rfl (lv_at hl 2 rfl) ?_
  refine px_get (D := D) (ci := 5) (v := .ref (ad (20 + n) 1)) (C := xR_Ly) (T := xT_Ly) (N := 4) hx hb hT xi_Ly hown hK.1 hP ym0 c_2 rfl 2 (by decide) (hT _ ys3_32) (fun _ h9 => h9) rfl xd_Ly_follow_4 ?_
  refine px_alen hx hb hK.1 hP ym1 c_3 6 rfl xd_Ly_follow_7 ?_
  refine W.eq (g2 := F0 m 8 ls [.int (nI mk), .int (nI via)]) rfl ?_
  refine xn_ge (a := via) (b := mk) (tgt := 58) hx hb xd_Ly_follow_8 (by decide) (by omega) (by omega) (fun hc5 => ?_) (fun hc5 => ?_)
  · exact W.vret hx hb hr (fun t ht hW => ⟨⟨E1, rfl, hRI, by rw [ht]; exact hP, hD⟩, hS.F ht⟩) hS.2.2 xd_Ly_follow_58
  · refine lv_iconst (v := 0) hx hb xd_Ly_follow_11 (by decide) ?_
    refine lv_istore_n hx hb xd_Ly_follow_12 rfl hl (Nat.le_of_ble_eq_true rfl) rfl (fun ls hl => ?_)
    have hl : lv_has ls 4 [(3, .int 0), (2, .int (nI via)), (1, .ref (ad (20 + n) 3)), (0, .ref (ad (20 + n) 0))] := hl
    refine xlab (σ := Nat × (Nat → Nat → va_E)) (ml := 4) 13 (fun (k, E3) => [(3, .int (nI k)), (2, .int (nI via)), (1, .ref (ad (20 + n) 3)), (0, .ref (ad (20 + n) 0))]) (fun (k, E3) => []) (fun (k, E3) => rp ad E3 RL) (fun (k, E3) => (k ≤ mk) ∧ (RI kA (20 + n) E E3)) (fun (k, E3) => mk - k) ?_ (0, E1) _ _ _ (lv_sub hl [0, 1, 2, 3] rfl) hP hD hS ⟨(show 0 ≤ mk from by first | assumption | omega), (show RI kA (20 + n) E E1 from hRI)⟩
    intro n9 ih6 a9 ls H locs hμ hl hP hD hS hI
    subst hμ
    obtain ⟨k, E3⟩ := a9
    obtain ⟨hk0, hRI⟩ := hI
    have hk0 : k ≤ mk := hk0
    have hRI : RI kA (20 + n) E E3 := hRI
    have hl : lv_has ls 4 [(3, .int (nI k)), (2, .int (nI via)), (1, .ref (ad (20 + n) 3)), (0, .ref (ad (20 + n) 0))] := hl
    have hP : va_P D xcl (rp ad E3 RL) H := hP
    have hD : va_D A (rp ad E3 RL) := hD
    have hDIs := DIs_RU hRI.ru hnd12 hDIs0
    have hLIs := LIs_RU hRI.ru hLIs0
    have hk9 : ∀ k, k < mk → fm k = some (ad (20 + n) (10 + 10 * k)) ∧ MEI kA ad E3 RL nd n k := fun k h => ⟨(hfm k h).1, MEI_RU hRI.ru (hfm k h).2⟩
    have c_7 : E3 (20 + n) 0 = .inr (5, [.int (nI n), pv, .ref (ad (20 + n) 1), .int lo]) := hRI.obj yc0
    have c_8 : E3 (20 + n) 1 = .inl (kA 6, mk, .inr (.inr (.inr (.inr fm)))) := hRI.arr yc1
    have c_9 : E3 (20 + n) 3 = .inl (kA 7, mk, .inr (.inr (.inr (.inr fs)))) := hRI.arr yc2
    refine lv_iload_n hx hb xd_Ly_follow_13 rfl (lv_at hl 0 rfl) ?_
    refine lv_aload_n hx hb xd_Ly_follow_14 rfl (lv_at hl 3 rfl) ?_
    refine px_get (D := D) (ci := 5) (v := .ref (ad (20 + n) 1)) (C := xR_Ly) (T := xT_Ly) (N := 4) hx hb hT xi_Ly hown hK.1 hP ym0 c_7 rfl 2 (by decide) (hT _ ys3_32) (fun _ h9 => h9) rfl xd_Ly_follow_15 ?_
    refine px_alen hx hb hK.1 hP ym1 c_8 6 rfl xd_Ly_follow_18 ?_
    refine W.eq (g2 := F0 m 19 ls [.int (nI mk), .int (nI k)]) rfl ?_
    refine xn_ge (a := k) (b := mk) (tgt := 52) hx hb xd_Ly_follow_19 (by decide) (by omega) (by omega) (fun hc10 => ?_) (fun hc10 => ?_)
    · refine lv_iinc (k := 1) (x := (nI via)) (v := (nI (via + 1))) hx hb xd_Ly_follow_52 hl rfl (xb_inc via 1) (Nat.le_of_ble_eq_true rfl) rfl (fun ls hl => ?_)
      have hl : lv_has ls 4 [(2, .int (nI (via + 1))), (3, .int (nI k)), (1, .ref (ad (20 + n) 3)), (0, .ref (ad (20 + n) 0))] := hl
      refine lv_goto (tgt := 2) hx hb xd_Ly_follow_55 (by decide) ?_
      exact ih1 (via + 1, E3) _ _ _ (show mk - (via + 1) < mk - via by omega) (lv_sub hl [0, 2, 3] rfl) hP hD hS ⟨(show (via + 1) ≤ mk from by first | assumption | omega), (show RI kA (20 + n) E E3 from hRI)⟩
    · have hM11 := (hk9 k (by omega)).2
      obtain ⟨hm_12, d_12, rs_12, fr_12, g2_12, g3_12, g4_12, hd_12, hrs_12, q0_12, q1_12, q2_12, q3_12, q4_12, q5_12, q6_12, q7_12⟩ := id hM11
      have c_13 : E3 (20 + n) (10 + 10 * k) = .inr (6, [.ref (ad (20 + n) 0), .ref (ad (1 + d_12) 0), .ref (ad (20 + n) (11 + 10 * k)), .ref (ad (20 + n) (12 + 10 * k)), .ref (ad (20 + n) (13 + 10 * k)), .ref (ad (20 + n) (14 + 10 * k))]) := q0_12
      have m_14 : (20 + n, 10 + 10 * k) ∈ RL := hm_12 0 (by omega)
      have c_15 : E3 (20 + n) (11 + 10 * k) = .inl (kA 6, rs_12, .inr (.inr (.inr (.inr fr_12)))) := q1_12
      have m_16 : (20 + n, 11 + 10 * k) ∈ RL := hm_12 1 (by omega)
      have c_17 : E3 (20 + n) (12 + 10 * k) = .inr (10, [.ref (ad (20 + n) (15 + 10 * k))]) := q2_12
      have m_18 : (20 + n, 12 + 10 * k) ∈ RL := hm_12 2 (by omega)
      have c_19 : E3 (20 + n) (13 + 10 * k) = .inr (10, [.ref (ad (20 + n) (16 + 10 * k))]) := q3_12
      have m_20 : (20 + n, 13 + 10 * k) ∈ RL := hm_12 3 (by omega)
      have c_21 : E3 (20 + n) (14 + 10 * k) = .inr (10, [.ref (ad (20 + n) (17 + 10 * k))]) := q4_12
      have m_22 : (20 + n, 14 + 10 * k) ∈ RL := hm_12 4 (by omega)
      have c_23 : E3 (20 + n) (15 + 10 * k) = .inl (kA 0, 6, .inl g2_12) := q5_12
      have m_24 : (20 + n, 15 + 10 * k) ∈ RL := hm_12 5 (by omega)
      have c_25 : E3 (20 + n) (16 + 10 * k) = .inl (kA 0, 6, .inl g3_12) := q6_12
      have m_26 : (20 + n, 16 + 10 * k) ∈ RL := hm_12 6 (by omega)
      have c_27 : E3 (20 + n) (17 + 10 * k) = .inl (kA 0, 6, .inl g4_12) := q7_12
      have m_28 : (20 + n, 17 + 10 * k) ∈ RL := hm_12 7 (by omega)
      have hM29 := (hk9 via (by omega)).2
      obtain ⟨hm_30, d_30, rs_30, fr_30, g2_30, g3_30, g4_30, hd_30, hrs_30, q0_30, q1_30, q2_30, q3_30, q4_30, q5_30, q6_30, q7_30⟩ := id hM29
      have c_31 : E3 (20 + n) (10 + 10 * via) = .inr (6, [.ref (ad (20 + n) 0), .ref (ad (1 + d_30) 0), .ref (ad (20 + n) (11 + 10 * via)), .ref (ad (20 + n) (12 + 10 * via)), .ref (ad (20 + n) (13 + 10 * via)), .ref (ad (20 + n) (14 + 10 * via))]) := q0_30
      have m_32 : (20 + n, 10 + 10 * via) ∈ RL := hm_30 0 (by omega)
      have c_33 : E3 (20 + n) (11 + 10 * via) = .inl (kA 6, rs_30, .inr (.inr (.inr (.inr fr_30)))) := q1_30
      have m_34 : (20 + n, 11 + 10 * via) ∈ RL := hm_30 1 (by omega)
      have c_35 : E3 (20 + n) (12 + 10 * via) = .inr (10, [.ref (ad (20 + n) (15 + 10 * via))]) := q2_30
      have m_36 : (20 + n, 12 + 10 * via) ∈ RL := hm_30 2 (by omega)
      have c_37 : E3 (20 + n) (13 + 10 * via) = .inr (10, [.ref (ad (20 + n) (16 + 10 * via))]) := q3_30
      have m_38 : (20 + n, 13 + 10 * via) ∈ RL := hm_30 3 (by omega)
      have c_39 : E3 (20 + n) (14 + 10 * via) = .inr (10, [.ref (ad (20 + n) (17 + 10 * via))]) := q4_30
      have m_40 : (20 + n, 14 + 10 * via) ∈ RL := hm_30 4 (by omega)
      have c_41 : E3 (20 + n) (15 + 10 * via) = .inl (kA 0, 6, .inl g2_30) := q5_30
      have m_42 : (20 + n, 15 + 10 * via) ∈ RL := hm_30 5 (by omega)
      have c_43 : E3 (20 + n) (16 + 10 * via) = .inl (kA 0, 6, .inl g3_30) := q6_30
      have m_44 : (20 + n, 16 + 10 * via) ∈ RL := hm_30 6 (by omega)
      have c_45 : E3 (20 + n) (17 + 10 * via) = .inl (kA 0, 6, .inl g4_30) := q7_30
      have m_46 : (20 + n, 17 + 10 * via) ∈ RL := hm_30 7 (by omega)
      refine lv_aload_n hx hb xd_Ly_follow_22 rfl (lv_at hl 2 rfl) ?_
      refine lv_iload_n hx hb xd_Ly_follow_23 rfl (lv_at hl 0 rfl) ?_
      refine px_aald (i := k) (x := (some (ad (20 + n) (13 + 10 * k)))) hx hb hK.1 hP ym2 c_9 7 rfl (hfs k (by omega)) (by omega) (by omega) xd_Ly_follow_24 ?_
      refine lv_aload_n hx hb xd_Ly_follow_25 rfl (lv_at hl 3 rfl) ?_
      refine px_get (D := D) (ci := 5) (v := .ref (ad (20 + n) 1)) (C := xR_Ly) (T := xT_Ly) (N := 4) hx hb hT xi_Ly hown hK.1 hP ym0 c_7 rfl 2 (by decide) (hT _ ys3_32) (fun _ h9 => h9) rfl xd_Ly_follow_26 ?_
      refine lv_iload_n hx hb xd_Ly_follow_29 rfl (lv_at hl 1 rfl) ?_
      refine px_aald (i := via) (x := (some (ad (20 + n) (10 + 10 * via)))) hx hb hK.1 hP ym1 c_8 6 rfl ((hk9 via (by omega)).1) (by omega) (by omega) xd_Ly_follow_30 ?_
      obtain ⟨hm_47, fd_47, nm_47, sd_47, k0_47, k1_47, k2_47, k3_47, f0_47, f1_47, f2_47, f3_47, fe_47, fo_47, tr_47, op_47, hk0_47, hk1_47, hk2_47, hk3_47, q0_47, q1_47, q2_47, q3_47, q4_47, q5_47, q6_47, q7_47, q8_47, q9_47, q10_47, q11_47, q12_47, hg_47⟩ := id (hDIs d_30 (by omega))
      have c_48 : E3 (1 + d_30) 0 = .inr (7, [.int (nI d_30), .int fd_47, .int nm_47, .ref (ad (1 + d_30) 1), .ref (ad (1 + d_30) 9), .ref (ad (1 + d_30) 10), .ref (ad (1 + d_30) 2), .ref (ad (1 + d_30) 11), .ref (ad (1 + d_30) 12), .ref (ad (1 + d_30) 3), .ref (ad (1 + d_30) 4), .int sd_47]) := q0_47
      have m_49 : (1 + d_30, 0) ∈ RL := hm_47 0 (by omega)
      have c_50 : E3 (1 + d_30) 1 = .inr (8, [.ref (ad (1 + d_30) 5), .int (nI k0_47)]) := q1_47
      have m_51 : (1 + d_30, 1) ∈ RL := hm_47 1 (by omega)
      have c_52 : E3 (1 + d_30) 2 = .inr (8, [.ref (ad (1 + d_30) 6), .int (nI k1_47)]) := q2_47
      have m_53 : (1 + d_30, 2) ∈ RL := hm_47 2 (by omega)
      have c_54 : E3 (1 + d_30) 3 = .inr (8, [.ref (ad (1 + d_30) 7), .int (nI k2_47)]) := q3_47
      have m_55 : (1 + d_30, 3) ∈ RL := hm_47 3 (by omega)
      have c_56 : E3 (1 + d_30) 4 = .inr (8, [.ref (ad (1 + d_30) 8), .int (nI k3_47)]) := q4_47
      have m_57 : (1 + d_30, 4) ∈ RL := hm_47 4 (by omega)
      have c_58 : E3 (1 + d_30) 5 = .inl (kA 0, 6, .inl f0_47) := q5_47
      have m_59 : (1 + d_30, 5) ∈ RL := hm_47 5 (by omega)
      have c_60 : E3 (1 + d_30) 6 = .inl (kA 0, 5, .inl f1_47) := q6_47
      have m_61 : (1 + d_30, 6) ∈ RL := hm_47 6 (by omega)
      have c_62 : E3 (1 + d_30) 7 = .inl (kA 0, 3, .inl f2_47) := q7_47
      have m_63 : (1 + d_30, 7) ∈ RL := hm_47 7 (by omega)
      have c_64 : E3 (1 + d_30) 8 = .inl (kA 0, 3, .inl f3_47) := q8_47
      have m_65 : (1 + d_30, 8) ∈ RL := hm_47 8 (by omega)
      have c_66 : E3 (1 + d_30) 9 = .inl (kA 8, 6, .inr (.inr (.inr (.inr fe_47)))) := q9_47
      have m_67 : (1 + d_30, 9) ∈ RL := hm_47 9 (by omega)
      have c_68 : E3 (1 + d_30) 10 = .inl (kA 8, 6, .inr (.inr (.inr (.inr fo_47)))) := q10_47
      have m_69 : (1 + d_30, 10) ∈ RL := hm_47 10 (by omega)
      have c_70 : E3 (1 + d_30) 11 = .inl (kA 2, 5, .inl tr_47) := q11_47
      have m_71 : (1 + d_30, 11) ∈ RL := hm_47 11 (by omega)
      have c_72 : E3 (1 + d_30) 12 = .inl (kA 2, 5, .inl op_47) := q12_47
      have m_73 : (1 + d_30, 12) ∈ RL := hm_47 12 (by omega)
      have hg_47 : ∀ w9, w9 < k0_47 → fe_47 w9 = some (ad (1 + d_30) (20 + 3 * w9)) ∧ fo_47 w9 = some (ad (1 + d_30) (38 + 3 * w9)) ∧ GI kA (ad (1 + d_30)) (E3 (1 + d_30)) (fun o => (1 + d_30, o) ∈ RL) (20 + 3 * w9) (21 + 3 * w9) (22 + 3 * w9) ∧ GI kA (ad (1 + d_30)) (E3 (1 + d_30)) (fun o => (1 + d_30, o) ∈ RL) (38 + 3 * w9) (39 + 3 * w9) (40 + 3 * w9) := hg_47
      have hFc := px_free hD hS hA
      refine va_calli (va_runV (As := [.ref (ad (20 + n) (10 + 10 * via))]) (rest := []) ⟨hx, hb, hml, hown, hT⟩ (xc_Re_marks l D kA H.size ad E3 RL (20 + n) (13 + 10 * k) (16 + 10 * k) g3_12 n via d_30 pv lo fd_47 nm_47 sd_47 m_20 c_19 m_26 c_25 m_32 c_31 ym0 c_7 m_49 c_48 (by first | assumption | omega)) (cwV 1 hT (wT_V ys3_34 ys3_35 ys3_36 ys3_21 ys3_33) rfl rfl rfl (by decide +kernel) ⟨Nat.le_of_ble_eq_true rfl, Nat.le_of_ble_eq_true rfl⟩) (px_preV hK hP hD m_20 c_19 rfl) rfl rfl hl.1 rfl (lv_room (Nat.le_of_ble_eq_true rfl)) xd_Ly_follow_31 ⟨(Nat.le_of_ble_eq_true rfl), (Nat.le_of_ble_eq_true rfl)⟩) hS (fun q _ h => hFc q h) hFc (fun r74 u75 t H1 locs ht hvm hp76 hB hz1 hk1 hS => ?_)
      obtain ⟨hP1, hD1⟩ := hB
      rw [ht] at hP1
      have hD1 := hD1.weaken (fun _ _ _ h => hFc _ h)
      generalize H1 = H at hP1 hS ⊢
      have hP := hP1
      have hD := hD1
      have hP : va_P D xcl (rp ad E3 RL) H := hP
      have hD : va_D A (rp ad E3 RL) := hD
      rcases hp76 with ⟨rfl, z77⟩ | ⟨rfl, z78⟩
      · refine W.eq (g2 := F0 m 34 ls [.int 1]) rfl ?_
        refine lv_if_eq (tgt := 46) hx hb xd_Ly_follow_34 (by decide) (fun hc79 => absurd hc79 (by decide)) (fun _ => ?_)
        by_cases hkv : k = via
        · rw [hkv] at hl
          have hl : lv_has ls 4 [(3, .int (nI via)), (2, .int (nI via)), (1, .ref (ad (20 + n) 3)), (0, .ref (ad (20 + n) 0))] := hl
          refine lv_aload_n hx hb xd_Ly_follow_37 rfl (lv_at hl 2 rfl) ?_
          refine lv_iload_n hx hb xd_Ly_follow_38 rfl (lv_at hl 0 rfl) ?_
          refine px_aald (i := via) (x := (some (ad (20 + n) (13 + 10 * via)))) hx hb hK.1 hP ym2 c_9 7 rfl (hfs via (by omega)) (by omega) (by omega) xd_Ly_follow_39 ?_
          refine lv_aload_n hx hb xd_Ly_follow_40 rfl (lv_at hl 2 rfl) ?_
          refine lv_iload_n hx hb xd_Ly_follow_41 rfl (lv_at hl 1 rfl) ?_
          refine px_aald (i := via) (x := (some (ad (20 + n) (13 + 10 * via)))) hx hb hK.1 hP ym2 c_9 7 rfl (hfs via (by omega)) (by omega) (by omega) xd_Ly_follow_42 ?_
          have hFc := px_free hD hS hA
          refine va_callv (va_runV (As := [.ref (ad (20 + n) (13 + 10 * via))]) (rest := []) ⟨hx, hb, hml, hown, hT⟩ (xc_Re_joinS l D kA H.size ad E3 RL (20 + n) (13 + 10 * via) (16 + 10 * via) g3_30 m_38 c_37 m_44 c_43 (by first | assumption | omega)) (cwV 1 hT (wT_V ys3_37 ys3_25 ys3_26 ys3_21 ys3_23) rfl rfl rfl (by decide +kernel) ⟨Nat.le_of_ble_eq_true rfl, Nat.le_of_ble_eq_true rfl⟩) (px_preV hK hP hD m_38 c_37 rfl) rfl rfl hl.1 rfl (lv_room (Nat.le_of_ble_eq_true rfl)) xd_Ly_follow_43 ⟨(Nat.le_of_ble_eq_true rfl), (Nat.le_of_ble_eq_true rfl)⟩) hS (fun q _ h => hFc q h) hFc (fun u81 t H1 locs ht hvm hp82 hB hz1 hk1 hS => ?_)
          obtain ⟨hP1, hD1⟩ := hB
          rw [ht] at hP1
          have hD1 := hD1.weaken (fun _ _ _ h => hFc _ h)
          generalize H1 = H at hP1 hS ⊢
          have hP := hP1
          have hD := hD1
          obtain ⟨E83, rfl⟩ : ∃ z, z = u81 := ⟨_, rfl⟩
          obtain ⟨w84, hp87, p_85, p_86⟩ := hp82
          have p_85 : E83 (20 + n) (16 + 10 * via) = .inl (kA 0, 6, .inl w84) := p_85
          have p_86 : (∀ b2 o2, ¬ (b2 = (20 + n) ∧ o2 = (16 + 10 * via)) → E83 b2 o2 = E3 b2 o2) := p_86
          have c_88 : E83 (20 + n) 0 = .inr (5, [.int (nI n), pv, .ref (ad (20 + n) 1), .int lo]) := (p_86 (20 + n) 0 (by omega)).trans c_7
          have c_89 : E83 (20 + n) 1 = .inl (kA 6, mk, .inr (.inr (.inr (.inr fm)))) := (p_86 (20 + n) 1 (by omega)).trans c_8
          have c_90 : E83 (20 + n) 3 = .inl (kA 7, mk, .inr (.inr (.inr (.inr fs)))) := (p_86 (20 + n) 3 (by omega)).trans c_9
          have c_91 : E83 (20 + n) (10 + 10 * k) = .inr (6, [.ref (ad (20 + n) 0), .ref (ad (1 + d_12) 0), .ref (ad (20 + n) (11 + 10 * k)), .ref (ad (20 + n) (12 + 10 * k)), .ref (ad (20 + n) (13 + 10 * k)), .ref (ad (20 + n) (14 + 10 * k))]) := (p_86 (20 + n) (10 + 10 * k) (by omega)).trans c_13
          have c_92 : E83 (20 + n) (11 + 10 * k) = .inl (kA 6, rs_12, .inr (.inr (.inr (.inr fr_12)))) := (p_86 (20 + n) (11 + 10 * k) (by omega)).trans c_15
          have c_93 : E83 (20 + n) (12 + 10 * k) = .inr (10, [.ref (ad (20 + n) (15 + 10 * k))]) := (p_86 (20 + n) (12 + 10 * k) (by omega)).trans c_17
          have c_94 : E83 (20 + n) (13 + 10 * k) = .inr (10, [.ref (ad (20 + n) (16 + 10 * k))]) := (p_86 (20 + n) (13 + 10 * k) (by omega)).trans c_19
          have c_95 : E83 (20 + n) (14 + 10 * k) = .inr (10, [.ref (ad (20 + n) (17 + 10 * k))]) := (p_86 (20 + n) (14 + 10 * k) (by omega)).trans c_21
          have c_96 : E83 (20 + n) (15 + 10 * k) = .inl (kA 0, 6, .inl g2_12) := (p_86 (20 + n) (15 + 10 * k) (by omega)).trans c_23
          have c_97 : E83 (20 + n) (16 + 10 * k) = .inl (kA 0, 6, .inl g3_12) := (p_86 (20 + n) (16 + 10 * k) (by omega)).trans c_25
          have c_98 : E83 (20 + n) (17 + 10 * k) = .inl (kA 0, 6, .inl g4_12) := (p_86 (20 + n) (17 + 10 * k) (by omega)).trans c_27
          have c_99 : E83 (20 + n) (10 + 10 * via) = .inr (6, [.ref (ad (20 + n) 0), .ref (ad (1 + d_30) 0), .ref (ad (20 + n) (11 + 10 * via)), .ref (ad (20 + n) (12 + 10 * via)), .ref (ad (20 + n) (13 + 10 * via)), .ref (ad (20 + n) (14 + 10 * via))]) := (p_86 (20 + n) (10 + 10 * via) (by omega)).trans c_31
          have c_100 : E83 (20 + n) (11 + 10 * via) = .inl (kA 6, rs_30, .inr (.inr (.inr (.inr fr_30)))) := (p_86 (20 + n) (11 + 10 * via) (by omega)).trans c_33
          have c_101 : E83 (20 + n) (12 + 10 * via) = .inr (10, [.ref (ad (20 + n) (15 + 10 * via))]) := (p_86 (20 + n) (12 + 10 * via) (by omega)).trans c_35
          have c_102 : E83 (20 + n) (13 + 10 * via) = .inr (10, [.ref (ad (20 + n) (16 + 10 * via))]) := (p_86 (20 + n) (13 + 10 * via) (by omega)).trans c_37
          have c_103 : E83 (20 + n) (14 + 10 * via) = .inr (10, [.ref (ad (20 + n) (17 + 10 * via))]) := (p_86 (20 + n) (14 + 10 * via) (by omega)).trans c_39
          have c_104 : E83 (20 + n) (15 + 10 * via) = .inl (kA 0, 6, .inl g2_30) := (p_86 (20 + n) (15 + 10 * via) (by omega)).trans c_41
          have c_105 : E83 (20 + n) (17 + 10 * via) = .inl (kA 0, 6, .inl g4_30) := (p_86 (20 + n) (17 + 10 * via) (by omega)).trans c_45
          have c_106 : E83 (1 + d_30) 0 = .inr (7, [.int (nI d_30), .int fd_47, .int nm_47, .ref (ad (1 + d_30) 1), .ref (ad (1 + d_30) 9), .ref (ad (1 + d_30) 10), .ref (ad (1 + d_30) 2), .ref (ad (1 + d_30) 11), .ref (ad (1 + d_30) 12), .ref (ad (1 + d_30) 3), .ref (ad (1 + d_30) 4), .int sd_47]) := (p_86 (1 + d_30) 0 (by omega)).trans c_48
          have c_107 : E83 (1 + d_30) 1 = .inr (8, [.ref (ad (1 + d_30) 5), .int (nI k0_47)]) := (p_86 (1 + d_30) 1 (by omega)).trans c_50
          have c_108 : E83 (1 + d_30) 2 = .inr (8, [.ref (ad (1 + d_30) 6), .int (nI k1_47)]) := (p_86 (1 + d_30) 2 (by omega)).trans c_52
          have c_109 : E83 (1 + d_30) 3 = .inr (8, [.ref (ad (1 + d_30) 7), .int (nI k2_47)]) := (p_86 (1 + d_30) 3 (by omega)).trans c_54
          have c_110 : E83 (1 + d_30) 4 = .inr (8, [.ref (ad (1 + d_30) 8), .int (nI k3_47)]) := (p_86 (1 + d_30) 4 (by omega)).trans c_56
          have c_111 : E83 (1 + d_30) 5 = .inl (kA 0, 6, .inl f0_47) := (p_86 (1 + d_30) 5 (by omega)).trans c_58
          have c_112 : E83 (1 + d_30) 6 = .inl (kA 0, 5, .inl f1_47) := (p_86 (1 + d_30) 6 (by omega)).trans c_60
          have c_113 : E83 (1 + d_30) 7 = .inl (kA 0, 3, .inl f2_47) := (p_86 (1 + d_30) 7 (by omega)).trans c_62
          have c_114 : E83 (1 + d_30) 8 = .inl (kA 0, 3, .inl f3_47) := (p_86 (1 + d_30) 8 (by omega)).trans c_64
          have c_115 : E83 (1 + d_30) 9 = .inl (kA 8, 6, .inr (.inr (.inr (.inr fe_47)))) := (p_86 (1 + d_30) 9 (by omega)).trans c_66
          have c_116 : E83 (1 + d_30) 10 = .inl (kA 8, 6, .inr (.inr (.inr (.inr fo_47)))) := (p_86 (1 + d_30) 10 (by omega)).trans c_68
          have c_117 : E83 (1 + d_30) 11 = .inl (kA 2, 5, .inl tr_47) := (p_86 (1 + d_30) 11 (by omega)).trans c_70
          have c_118 : E83 (1 + d_30) 12 = .inl (kA 2, 5, .inl op_47) := (p_86 (1 + d_30) 12 (by omega)).trans c_72
          have hP : va_P D xcl (rp ad E83 RL) H := hP
          have hD : va_D A (rp ad E83 RL) := hD
          refine lv_iinc (k := 0) (x := (nI via)) (v := (nI (via + 1))) hx hb xd_Ly_follow_46 hl rfl (xb_inc via 1) (Nat.le_of_ble_eq_true rfl) rfl (fun ls hl => ?_)
          have hl : lv_has ls 4 [(3, .int (nI (via + 1))), (2, .int (nI via)), (1, .ref (ad (20 + n) 3)), (0, .ref (ad (20 + n) 0))] := hl
          refine lv_goto (tgt := 13) hx hb xd_Ly_follow_49 (by decide) ?_
          exact ih6 (via + 1, E83) _ _ _ (show mk - (via + 1) < mk - k by omega) (lv_sub hl [0, 1, 2, 3] rfl) hP hD hS ⟨(show (via + 1) ≤ mk from by first | assumption | omega), (show RI kA (20 + n) E E83 from RI.trans' hRI (RI.row c_43 p_85 p_86))⟩
        · have hkv := hkv
          refine lv_aload_n hx hb xd_Ly_follow_37 rfl (lv_at hl 2 rfl) ?_
          refine lv_iload_n hx hb xd_Ly_follow_38 rfl (lv_at hl 0 rfl) ?_
          refine px_aald (i := k) (x := (some (ad (20 + n) (13 + 10 * k)))) hx hb hK.1 hP ym2 c_9 7 rfl (hfs k (by omega)) (by omega) (by omega) xd_Ly_follow_39 ?_
          refine lv_aload_n hx hb xd_Ly_follow_40 rfl (lv_at hl 2 rfl) ?_
          refine lv_iload_n hx hb xd_Ly_follow_41 rfl (lv_at hl 1 rfl) ?_
          refine px_aald (i := via) (x := (some (ad (20 + n) (13 + 10 * via)))) hx hb hK.1 hP ym2 c_9 7 rfl (hfs via (by omega)) (by omega) (by omega) xd_Ly_follow_42 ?_
          have hFc := px_free hD hS hA
          refine va_callv (va_runV (As := [.ref (ad (20 + n) (13 + 10 * via))]) (rest := []) ⟨hx, hb, hml, hown, hT⟩ (xc_Re_join l D kA H.size ad E3 RL (20 + n) (13 + 10 * k) (16 + 10 * k) g3_12 (20 + n) (13 + 10 * via) (16 + 10 * via) g3_30 m_20 c_19 m_26 c_25 m_38 c_37 m_44 c_43 (by first | assumption | omega) (by first | assumption | omega)) (cwV 1 hT (wT_V ys3_37 ys3_25 ys3_26 ys3_21 ys3_23) rfl rfl rfl (by decide +kernel) ⟨Nat.le_of_ble_eq_true rfl, Nat.le_of_ble_eq_true rfl⟩) (px_preV hK hP hD m_20 c_19 rfl) rfl rfl hl.1 rfl (lv_room (Nat.le_of_ble_eq_true rfl)) xd_Ly_follow_43 ⟨(Nat.le_of_ble_eq_true rfl), (Nat.le_of_ble_eq_true rfl)⟩) hS (fun q _ h => hFc q h) hFc (fun u120 t H1 locs ht hvm hp121 hB hz1 hk1 hS => ?_)
          obtain ⟨hP1, hD1⟩ := hB
          rw [ht] at hP1
          have hD1 := hD1.weaken (fun _ _ _ h => hFc _ h)
          generalize H1 = H at hP1 hS ⊢
          have hP := hP1
          have hD := hD1
          obtain ⟨E122, rfl⟩ : ∃ z, z = u120 := ⟨_, rfl⟩
          obtain ⟨w123, hp126, p_124, p_125⟩ := hp121
          have p_124 : E122 (20 + n) (16 + 10 * k) = .inl (kA 0, 6, .inl w123) := p_124
          have p_125 : (∀ b2 o2, ¬ (b2 = (20 + n) ∧ o2 = (16 + 10 * k)) → E122 b2 o2 = E3 b2 o2) := p_125
          have c_127 : E122 (20 + n) 0 = .inr (5, [.int (nI n), pv, .ref (ad (20 + n) 1), .int lo]) := (p_125 (20 + n) 0 (by omega)).trans c_7
          have c_128 : E122 (20 + n) 1 = .inl (kA 6, mk, .inr (.inr (.inr (.inr fm)))) := (p_125 (20 + n) 1 (by omega)).trans c_8
          have c_129 : E122 (20 + n) 3 = .inl (kA 7, mk, .inr (.inr (.inr (.inr fs)))) := (p_125 (20 + n) 3 (by omega)).trans c_9
          have c_130 : E122 (20 + n) (10 + 10 * k) = .inr (6, [.ref (ad (20 + n) 0), .ref (ad (1 + d_12) 0), .ref (ad (20 + n) (11 + 10 * k)), .ref (ad (20 + n) (12 + 10 * k)), .ref (ad (20 + n) (13 + 10 * k)), .ref (ad (20 + n) (14 + 10 * k))]) := (p_125 (20 + n) (10 + 10 * k) (by omega)).trans c_13
          have c_131 : E122 (20 + n) (11 + 10 * k) = .inl (kA 6, rs_12, .inr (.inr (.inr (.inr fr_12)))) := (p_125 (20 + n) (11 + 10 * k) (by omega)).trans c_15
          have c_132 : E122 (20 + n) (12 + 10 * k) = .inr (10, [.ref (ad (20 + n) (15 + 10 * k))]) := (p_125 (20 + n) (12 + 10 * k) (by omega)).trans c_17
          have c_133 : E122 (20 + n) (13 + 10 * k) = .inr (10, [.ref (ad (20 + n) (16 + 10 * k))]) := (p_125 (20 + n) (13 + 10 * k) (by omega)).trans c_19
          have c_134 : E122 (20 + n) (14 + 10 * k) = .inr (10, [.ref (ad (20 + n) (17 + 10 * k))]) := (p_125 (20 + n) (14 + 10 * k) (by omega)).trans c_21
          have c_135 : E122 (20 + n) (15 + 10 * k) = .inl (kA 0, 6, .inl g2_12) := (p_125 (20 + n) (15 + 10 * k) (by omega)).trans c_23
          have c_136 : E122 (20 + n) (17 + 10 * k) = .inl (kA 0, 6, .inl g4_12) := (p_125 (20 + n) (17 + 10 * k) (by omega)).trans c_27
          have c_137 : E122 (20 + n) (10 + 10 * via) = .inr (6, [.ref (ad (20 + n) 0), .ref (ad (1 + d_30) 0), .ref (ad (20 + n) (11 + 10 * via)), .ref (ad (20 + n) (12 + 10 * via)), .ref (ad (20 + n) (13 + 10 * via)), .ref (ad (20 + n) (14 + 10 * via))]) := (p_125 (20 + n) (10 + 10 * via) (by omega)).trans c_31
          have c_138 : E122 (20 + n) (11 + 10 * via) = .inl (kA 6, rs_30, .inr (.inr (.inr (.inr fr_30)))) := (p_125 (20 + n) (11 + 10 * via) (by omega)).trans c_33
          have c_139 : E122 (20 + n) (12 + 10 * via) = .inr (10, [.ref (ad (20 + n) (15 + 10 * via))]) := (p_125 (20 + n) (12 + 10 * via) (by omega)).trans c_35
          have c_140 : E122 (20 + n) (13 + 10 * via) = .inr (10, [.ref (ad (20 + n) (16 + 10 * via))]) := (p_125 (20 + n) (13 + 10 * via) (by omega)).trans c_37
          have c_141 : E122 (20 + n) (14 + 10 * via) = .inr (10, [.ref (ad (20 + n) (17 + 10 * via))]) := (p_125 (20 + n) (14 + 10 * via) (by omega)).trans c_39
          have c_142 : E122 (20 + n) (15 + 10 * via) = .inl (kA 0, 6, .inl g2_30) := (p_125 (20 + n) (15 + 10 * via) (by omega)).trans c_41
          have c_143 : E122 (20 + n) (16 + 10 * via) = .inl (kA 0, 6, .inl g3_30) := (p_125 (20 + n) (16 + 10 * via) (by omega)).trans c_43
          have c_144 : E122 (20 + n) (17 + 10 * via) = .inl (kA 0, 6, .inl g4_30) := (p_125 (20 + n) (17 + 10 * via) (by omega)).trans c_45
          have c_145 : E122 (1 + d_30) 0 = .inr (7, [.int (nI d_30), .int fd_47, .int nm_47, .ref (ad (1 + d_30) 1), .ref (ad (1 + d_30) 9), .ref (ad (1 + d_30) 10), .ref (ad (1 + d_30) 2), .ref (ad (1 + d_30) 11), .ref (ad (1 + d_30) 12), .ref (ad (1 + d_30) 3), .ref (ad (1 + d_30) 4), .int sd_47]) := (p_125 (1 + d_30) 0 (by omega)).trans c_48
          have c_146 : E122 (1 + d_30) 1 = .inr (8, [.ref (ad (1 + d_30) 5), .int (nI k0_47)]) := (p_125 (1 + d_30) 1 (by omega)).trans c_50
          have c_147 : E122 (1 + d_30) 2 = .inr (8, [.ref (ad (1 + d_30) 6), .int (nI k1_47)]) := (p_125 (1 + d_30) 2 (by omega)).trans c_52
          have c_148 : E122 (1 + d_30) 3 = .inr (8, [.ref (ad (1 + d_30) 7), .int (nI k2_47)]) := (p_125 (1 + d_30) 3 (by omega)).trans c_54
          have c_149 : E122 (1 + d_30) 4 = .inr (8, [.ref (ad (1 + d_30) 8), .int (nI k3_47)]) := (p_125 (1 + d_30) 4 (by omega)).trans c_56
          have c_150 : E122 (1 + d_30) 5 = .inl (kA 0, 6, .inl f0_47) := (p_125 (1 + d_30) 5 (by omega)).trans c_58
          have c_151 : E122 (1 + d_30) 6 = .inl (kA 0, 5, .inl f1_47) := (p_125 (1 + d_30) 6 (by omega)).trans c_60
          have c_152 : E122 (1 + d_30) 7 = .inl (kA 0, 3, .inl f2_47) := (p_125 (1 + d_30) 7 (by omega)).trans c_62
          have c_153 : E122 (1 + d_30) 8 = .inl (kA 0, 3, .inl f3_47) := (p_125 (1 + d_30) 8 (by omega)).trans c_64
          have c_154 : E122 (1 + d_30) 9 = .inl (kA 8, 6, .inr (.inr (.inr (.inr fe_47)))) := (p_125 (1 + d_30) 9 (by omega)).trans c_66
          have c_155 : E122 (1 + d_30) 10 = .inl (kA 8, 6, .inr (.inr (.inr (.inr fo_47)))) := (p_125 (1 + d_30) 10 (by omega)).trans c_68
          have c_156 : E122 (1 + d_30) 11 = .inl (kA 2, 5, .inl tr_47) := (p_125 (1 + d_30) 11 (by omega)).trans c_70
          have c_157 : E122 (1 + d_30) 12 = .inl (kA 2, 5, .inl op_47) := (p_125 (1 + d_30) 12 (by omega)).trans c_72
          have hP : va_P D xcl (rp ad E122 RL) H := hP
          have hD : va_D A (rp ad E122 RL) := hD
          refine lv_iinc (k := 0) (x := (nI k)) (v := (nI (k + 1))) hx hb xd_Ly_follow_46 hl rfl (xb_inc k 1) (Nat.le_of_ble_eq_true rfl) rfl (fun ls hl => ?_)
          have hl : lv_has ls 4 [(3, .int (nI (k + 1))), (2, .int (nI via)), (1, .ref (ad (20 + n) 3)), (0, .ref (ad (20 + n) 0))] := hl
          refine lv_goto (tgt := 13) hx hb xd_Ly_follow_49 (by decide) ?_
          exact ih6 (k + 1, E122) _ _ _ (show mk - (k + 1) < mk - k by omega) (lv_sub hl [0, 1, 2, 3] rfl) hP hD hS ⟨(show (k + 1) ≤ mk from by first | assumption | omega), (show RI kA (20 + n) E E122 from RI.trans' hRI (RI.row c_25 p_124 p_125))⟩
      · refine W.eq (g2 := F0 m 34 ls [.int 0]) rfl ?_
        refine lv_if_eq (tgt := 46) hx hb xd_Ly_follow_34 (by decide) (fun _ => ?_) (fun hc158 => absurd (by decide) hc158)
        refine lv_iinc (k := 0) (x := (nI k)) (v := (nI (k + 1))) hx hb xd_Ly_follow_46 hl rfl (xb_inc k 1) (Nat.le_of_ble_eq_true rfl) rfl (fun ls hl => ?_)
        have hl : lv_has ls 4 [(3, .int (nI (k + 1))), (2, .int (nI via)), (1, .ref (ad (20 + n) 3)), (0, .ref (ad (20 + n) 0))] := hl
        refine lv_goto (tgt := 13) hx hb xd_Ly_follow_49 (by decide) ?_
        exact ih6 (k + 1, E3) _ _ _ (show mk - (k + 1) < mk - k by omega) (lv_sub hl [0, 1, 2, 3] rfl) hP hD hS ⟨(show (k + 1) ≤ mk from by first | assumption | omega), (show RI kA (20 + n) E E3 from hRI)⟩
