abbrev xb_Li_wordIs : ByteArray := prog_6_method_5_code
def xy_Li_wordIs : MethodName := ⟨"LayerDesk$Line", "wordIs", "(ILjava/lang/String;)Z"⟩
abbrev xb_Sh_acceptDescriptor : ByteArray := prog_10_method_6_code
def xy_Sh_acceptDescriptor : MethodName := ⟨"LayerDesk$Shelf", "acceptDescriptor", "(LLayerDesk$Line;)I"⟩
abbrev xb_Sh_acceptPackage : ByteArray := prog_10_method_7_code
def xy_Sh_acceptPackage : MethodName := ⟨"LayerDesk$Shelf", "acceptPackage", "(LLayerDesk$Line;)I"⟩
abbrev xb_Sh_acceptGrant : ByteArray := prog_10_method_8_code
def xy_Sh_acceptGrant : MethodName := ⟨"LayerDesk$Shelf", "acceptGrant", "(LLayerDesk$Line;)I"⟩
abbrev xb_Sh_acceptRequired : ByteArray := prog_10_method_9_code
def xy_Sh_acceptRequired : MethodName := ⟨"LayerDesk$Shelf", "acceptRequired", "(LLayerDesk$Line;)I"⟩
abbrev xb_Sh_acceptService : ByteArray := prog_10_method_10_code
def xy_Sh_acceptService : MethodName := ⟨"LayerDesk$Shelf", "acceptService", "(LLayerDesk$Line;)I"⟩
abbrev xb_Sh_accept : ByteArray := prog_10_method_4_code
def xy_Sh_accept : MethodName := ⟨"LayerDesk$Shelf", "accept", "(LLayerDesk$Line;)I"⟩
theorem xd_Li_wordIs_0 : decode xb_Li_wordIs 0 = .ok (.iload_n 1, 1) := by decide +kernel
theorem xd_Li_wordIs_1 : decode xb_Li_wordIs 1 = .ok (.ifCond .lt 31, 3) := by decide +kernel
theorem xd_Li_wordIs_4 : decode xb_Li_wordIs 4 = .ok (.iload_n 1, 1) := by decide +kernel
theorem xd_Li_wordIs_5 : decode xb_Li_wordIs 5 = .ok (.aload_n 0, 1) := by decide +kernel
theorem xd_Li_wordIs_6 : decode xb_Li_wordIs 6 = .ok (.getfield 24, 3) := by decide +kernel
theorem xd_Li_wordIs_9 : decode xb_Li_wordIs 9 = .ok (.if_icmp .ge 23, 3) := by decide +kernel
theorem xd_Li_wordIs_12 : decode xb_Li_wordIs 12 = .ok (.aload_n 0, 1) := by decide +kernel
theorem xd_Li_wordIs_13 : decode xb_Li_wordIs 13 = .ok (.getfield 17, 3) := by decide +kernel
theorem xd_Li_wordIs_16 : decode xb_Li_wordIs 16 = .ok (.iload_n 1, 1) := by decide +kernel
theorem xd_Li_wordIs_17 : decode xb_Li_wordIs 17 = .ok (.iaload, 1) := by decide +kernel
theorem xd_Li_wordIs_18 : decode xb_Li_wordIs 18 = .ok (.aload_n 0, 1) := by decide +kernel
theorem xd_Li_wordIs_19 : decode xb_Li_wordIs 19 = .ok (.getfield 13, 3) := by decide +kernel
theorem xd_Li_wordIs_22 : decode xb_Li_wordIs 22 = .ok (.iload_n 1, 1) := by decide +kernel
theorem xd_Li_wordIs_23 : decode xb_Li_wordIs 23 = .ok (.iaload, 1) := by decide +kernel
theorem xd_Li_wordIs_24 : decode xb_Li_wordIs 24 = .ok (.isub, 1) := by decide +kernel
theorem xd_Li_wordIs_25 : decode xb_Li_wordIs 25 = .ok (.aload_n 2, 1) := by decide +kernel
theorem xd_Li_wordIs_26 : decode xb_Li_wordIs 26 = .ok (.invokevirtual 34, 3) := by decide +kernel
theorem xd_Li_wordIs_29 : decode xb_Li_wordIs 29 = .ok (.if_icmp .eq 5, 3) := by decide +kernel
theorem xd_Li_wordIs_32 : decode xb_Li_wordIs 32 = .ok (.iconst 0, 1) := by decide +kernel
theorem xd_Li_wordIs_33 : decode xb_Li_wordIs 33 = .ok (.ireturn, 1) := by decide +kernel
theorem xd_Li_wordIs_34 : decode xb_Li_wordIs 34 = .ok (.iconst 0, 1) := by decide +kernel
theorem xd_Li_wordIs_35 : decode xb_Li_wordIs 35 = .ok (.istore_n 3, 1) := by decide +kernel
theorem xd_Li_wordIs_36 : decode xb_Li_wordIs 36 = .ok (.iload_n 3, 1) := by decide +kernel
theorem xd_Li_wordIs_37 : decode xb_Li_wordIs 37 = .ok (.aload_n 2, 1) := by decide +kernel
theorem xd_Li_wordIs_38 : decode xb_Li_wordIs 38 = .ok (.invokevirtual 34, 3) := by decide +kernel
theorem xd_Li_wordIs_41 : decode xb_Li_wordIs 41 = .ok (.if_icmp .ge 32, 3) := by decide +kernel
theorem xd_Li_wordIs_44 : decode xb_Li_wordIs 44 = .ok (.aload_n 0, 1) := by decide +kernel
theorem xd_Li_wordIs_45 : decode xb_Li_wordIs 45 = .ok (.getfield 9, 3) := by decide +kernel
theorem xd_Li_wordIs_48 : decode xb_Li_wordIs 48 = .ok (.aload_n 0, 1) := by decide +kernel
theorem xd_Li_wordIs_49 : decode xb_Li_wordIs 49 = .ok (.getfield 13, 3) := by decide +kernel
theorem xd_Li_wordIs_52 : decode xb_Li_wordIs 52 = .ok (.iload_n 1, 1) := by decide +kernel
theorem xd_Li_wordIs_53 : decode xb_Li_wordIs 53 = .ok (.iaload, 1) := by decide +kernel
theorem xd_Li_wordIs_54 : decode xb_Li_wordIs 54 = .ok (.iload_n 3, 1) := by decide +kernel
theorem xd_Li_wordIs_55 : decode xb_Li_wordIs 55 = .ok (.iadd, 1) := by decide +kernel
theorem xd_Li_wordIs_56 : decode xb_Li_wordIs 56 = .ok (.caload, 1) := by decide +kernel
theorem xd_Li_wordIs_57 : decode xb_Li_wordIs 57 = .ok (.aload_n 2, 1) := by decide +kernel
theorem xd_Li_wordIs_58 : decode xb_Li_wordIs 58 = .ok (.iload_n 3, 1) := by decide +kernel
theorem xd_Li_wordIs_59 : decode xb_Li_wordIs 59 = .ok (.invokevirtual 39, 3) := by decide +kernel
theorem xd_Li_wordIs_62 : decode xb_Li_wordIs 62 = .ok (.if_icmp .eq 5, 3) := by decide +kernel
theorem xd_Li_wordIs_65 : decode xb_Li_wordIs 65 = .ok (.iconst 0, 1) := by decide +kernel
theorem xd_Li_wordIs_66 : decode xb_Li_wordIs 66 = .ok (.ireturn, 1) := by decide +kernel
theorem xd_Li_wordIs_67 : decode xb_Li_wordIs 67 = .ok (.iinc 3 1, 3) := by decide +kernel
theorem xd_Li_wordIs_70 : decode xb_Li_wordIs 70 = .ok (.goto (-34), 3) := by decide +kernel
theorem xd_Li_wordIs_73 : decode xb_Li_wordIs 73 = .ok (.iconst 1, 1) := by decide +kernel
theorem xd_Li_wordIs_74 : decode xb_Li_wordIs 74 = .ok (.ireturn, 1) := by decide +kernel
theorem xd_Sh_accept_0 : decode xb_Sh_accept 0 = .ok (.aload_n 1, 1) := by decide +kernel
theorem xd_Sh_accept_1 : decode xb_Sh_accept 1 = .ok (.getfield 27, 3) := by decide +kernel
theorem xd_Sh_accept_4 : decode xb_Sh_accept 4 = .ok (.ifCond .ne 5, 3) := by decide +kernel
theorem xd_Sh_accept_7 : decode xb_Sh_accept 7 = .ok (.iconst 0, 1) := by decide +kernel
theorem xd_Sh_accept_8 : decode xb_Sh_accept 8 = .ok (.ireturn, 1) := by decide +kernel
theorem xd_Sh_accept_9 : decode xb_Sh_accept 9 = .ok (.aload_n 1, 1) := by decide +kernel
theorem xd_Sh_accept_10 : decode xb_Sh_accept 10 = .ok (.iconst 0, 1) := by decide +kernel
theorem xd_Sh_accept_11 : decode xb_Sh_accept 11 = .ok (.ldc 32, 2) := by decide +kernel
theorem xd_Sh_accept_13 : decode xb_Sh_accept 13 = .ok (.invokevirtual 34, 3) := by decide +kernel
theorem xd_Sh_accept_16 : decode xb_Sh_accept 16 = .ok (.ifCond .eq 9, 3) := by decide +kernel
theorem xd_Sh_accept_19 : decode xb_Sh_accept 19 = .ok (.aload_n 0, 1) := by decide +kernel
theorem xd_Sh_accept_20 : decode xb_Sh_accept 20 = .ok (.aload_n 1, 1) := by decide +kernel
theorem xd_Sh_accept_21 : decode xb_Sh_accept 21 = .ok (.invokevirtual 38, 3) := by decide +kernel
theorem xd_Sh_accept_24 : decode xb_Sh_accept 24 = .ok (.ireturn, 1) := by decide +kernel
theorem xd_Sh_accept_25 : decode xb_Sh_accept 25 = .ok (.aload_n 1, 1) := by decide +kernel
theorem xd_Sh_accept_26 : decode xb_Sh_accept 26 = .ok (.iconst 0, 1) := by decide +kernel
theorem xd_Sh_accept_27 : decode xb_Sh_accept 27 = .ok (.ldc 42, 2) := by decide +kernel
theorem xd_Sh_accept_29 : decode xb_Sh_accept 29 = .ok (.invokevirtual 34, 3) := by decide +kernel
theorem xd_Sh_accept_32 : decode xb_Sh_accept 32 = .ok (.ifCond .eq 9, 3) := by decide +kernel
theorem xd_Sh_accept_35 : decode xb_Sh_accept 35 = .ok (.aload_n 0, 1) := by decide +kernel
theorem xd_Sh_accept_36 : decode xb_Sh_accept 36 = .ok (.aload_n 1, 1) := by decide +kernel
theorem xd_Sh_accept_37 : decode xb_Sh_accept 37 = .ok (.invokevirtual 44, 3) := by decide +kernel
theorem xd_Sh_accept_40 : decode xb_Sh_accept 40 = .ok (.ireturn, 1) := by decide +kernel
theorem xd_Sh_accept_41 : decode xb_Sh_accept 41 = .ok (.aload_n 1, 1) := by decide +kernel
theorem xd_Sh_accept_42 : decode xb_Sh_accept 42 = .ok (.iconst 0, 1) := by decide +kernel
theorem xd_Sh_accept_43 : decode xb_Sh_accept 43 = .ok (.ldc 47, 2) := by decide +kernel
theorem xd_Sh_accept_45 : decode xb_Sh_accept 45 = .ok (.invokevirtual 34, 3) := by decide +kernel
theorem xd_Sh_accept_48 : decode xb_Sh_accept 48 = .ok (.ifCond .ne 13, 3) := by decide +kernel
theorem xd_Sh_accept_51 : decode xb_Sh_accept 51 = .ok (.aload_n 1, 1) := by decide +kernel
theorem xd_Sh_accept_52 : decode xb_Sh_accept 52 = .ok (.iconst 0, 1) := by decide +kernel
theorem xd_Sh_accept_53 : decode xb_Sh_accept 53 = .ok (.ldc 49, 2) := by decide +kernel
theorem xd_Sh_accept_55 : decode xb_Sh_accept 55 = .ok (.invokevirtual 34, 3) := by decide +kernel
theorem xd_Sh_accept_58 : decode xb_Sh_accept 58 = .ok (.ifCond .eq 9, 3) := by decide +kernel
theorem xd_Sh_accept_61 : decode xb_Sh_accept 61 = .ok (.aload_n 0, 1) := by decide +kernel
theorem xd_Sh_accept_62 : decode xb_Sh_accept 62 = .ok (.aload_n 1, 1) := by decide +kernel
theorem xd_Sh_accept_63 : decode xb_Sh_accept 63 = .ok (.invokevirtual 51, 3) := by decide +kernel
theorem xd_Sh_accept_66 : decode xb_Sh_accept 66 = .ok (.ireturn, 1) := by decide +kernel
theorem xd_Sh_accept_67 : decode xb_Sh_accept 67 = .ok (.aload_n 1, 1) := by decide +kernel
theorem xd_Sh_accept_68 : decode xb_Sh_accept 68 = .ok (.iconst 0, 1) := by decide +kernel
theorem xd_Sh_accept_69 : decode xb_Sh_accept 69 = .ok (.ldc 54, 2) := by decide +kernel
theorem xd_Sh_accept_71 : decode xb_Sh_accept 71 = .ok (.invokevirtual 34, 3) := by decide +kernel
theorem xd_Sh_accept_74 : decode xb_Sh_accept 74 = .ok (.ifCond .eq 9, 3) := by decide +kernel
theorem xd_Sh_accept_77 : decode xb_Sh_accept 77 = .ok (.aload_n 0, 1) := by decide +kernel
theorem xd_Sh_accept_78 : decode xb_Sh_accept 78 = .ok (.aload_n 1, 1) := by decide +kernel
theorem xd_Sh_accept_79 : decode xb_Sh_accept 79 = .ok (.invokevirtual 56, 3) := by decide +kernel
theorem xd_Sh_accept_82 : decode xb_Sh_accept 82 = .ok (.ireturn, 1) := by decide +kernel
theorem xd_Sh_accept_83 : decode xb_Sh_accept 83 = .ok (.aload_n 1, 1) := by decide +kernel
theorem xd_Sh_accept_84 : decode xb_Sh_accept 84 = .ok (.iconst 0, 1) := by decide +kernel
theorem xd_Sh_accept_85 : decode xb_Sh_accept 85 = .ok (.ldc 59, 2) := by decide +kernel
theorem xd_Sh_accept_87 : decode xb_Sh_accept 87 = .ok (.invokevirtual 34, 3) := by decide +kernel
theorem xd_Sh_accept_90 : decode xb_Sh_accept 90 = .ok (.ifCond .ne 13, 3) := by decide +kernel
theorem xd_Sh_accept_93 : decode xb_Sh_accept 93 = .ok (.aload_n 1, 1) := by decide +kernel
theorem xd_Sh_accept_94 : decode xb_Sh_accept 94 = .ok (.iconst 0, 1) := by decide +kernel
theorem xd_Sh_accept_95 : decode xb_Sh_accept 95 = .ok (.ldc 61, 2) := by decide +kernel
theorem xd_Sh_accept_97 : decode xb_Sh_accept 97 = .ok (.invokevirtual 34, 3) := by decide +kernel
theorem xd_Sh_accept_100 : decode xb_Sh_accept 100 = .ok (.ifCond .eq 9, 3) := by decide +kernel
theorem xd_Sh_accept_103 : decode xb_Sh_accept 103 = .ok (.aload_n 0, 1) := by decide +kernel
theorem xd_Sh_accept_104 : decode xb_Sh_accept 104 = .ok (.aload_n 1, 1) := by decide +kernel
theorem xd_Sh_accept_105 : decode xb_Sh_accept 105 = .ok (.invokevirtual 63, 3) := by decide +kernel
theorem xd_Sh_accept_108 : decode xb_Sh_accept 108 = .ok (.ireturn, 1) := by decide +kernel
theorem xd_Sh_accept_109 : decode xb_Sh_accept 109 = .ok (.iconst (-1), 1) := by decide +kernel
theorem xd_Sh_accept_110 : decode xb_Sh_accept 110 = .ok (.ireturn, 1) := by decide +kernel
theorem xd_Sh_acceptDescriptor_0 : decode xb_Sh_acceptDescriptor 0 = .ok (.aload_n 1, 1) := by decide +kernel
theorem xd_Sh_acceptDescriptor_1 : decode xb_Sh_acceptDescriptor 1 = .ok (.iconst 1, 1) := by decide +kernel
theorem xd_Sh_acceptDescriptor_2 : decode xb_Sh_acceptDescriptor 2 = .ok (.ldc 66, 2) := by decide +kernel
theorem xd_Sh_acceptDescriptor_4 : decode xb_Sh_acceptDescriptor 4 = .ok (.invokevirtual 34, 3) := by decide +kernel
theorem xd_Sh_acceptDescriptor_7 : decode xb_Sh_acceptDescriptor 7 = .ok (.ifCond .eq 7, 3) := by decide +kernel
theorem xd_Sh_acceptDescriptor_10 : decode xb_Sh_acceptDescriptor 10 = .ok (.iconst 0, 1) := by decide +kernel
theorem xd_Sh_acceptDescriptor_11 : decode xb_Sh_acceptDescriptor 11 = .ok (.goto 18, 3) := by decide +kernel
theorem xd_Sh_acceptDescriptor_14 : decode xb_Sh_acceptDescriptor 14 = .ok (.aload_n 1, 1) := by decide +kernel
theorem xd_Sh_acceptDescriptor_15 : decode xb_Sh_acceptDescriptor 15 = .ok (.iconst 1, 1) := by decide +kernel
theorem xd_Sh_acceptDescriptor_16 : decode xb_Sh_acceptDescriptor 16 = .ok (.ldc 68, 2) := by decide +kernel
theorem xd_Sh_acceptDescriptor_18 : decode xb_Sh_acceptDescriptor 18 = .ok (.invokevirtual 34, 3) := by decide +kernel
theorem xd_Sh_acceptDescriptor_21 : decode xb_Sh_acceptDescriptor 21 = .ok (.ifCond .eq 7, 3) := by decide +kernel
theorem xd_Sh_acceptDescriptor_24 : decode xb_Sh_acceptDescriptor 24 = .ok (.iconst 1, 1) := by decide +kernel
theorem xd_Sh_acceptDescriptor_25 : decode xb_Sh_acceptDescriptor 25 = .ok (.goto 4, 3) := by decide +kernel
theorem xd_Sh_acceptDescriptor_28 : decode xb_Sh_acceptDescriptor 28 = .ok (.iconst (-1), 1) := by decide +kernel
theorem xd_Sh_acceptDescriptor_29 : decode xb_Sh_acceptDescriptor 29 = .ok (.istore_n 2, 1) := by decide +kernel
theorem xd_Sh_acceptDescriptor_30 : decode xb_Sh_acceptDescriptor 30 = .ok (.aload_n 1, 1) := by decide +kernel
theorem xd_Sh_acceptDescriptor_31 : decode xb_Sh_acceptDescriptor 31 = .ok (.iconst 2, 1) := by decide +kernel
theorem xd_Sh_acceptDescriptor_32 : decode xb_Sh_acceptDescriptor 32 = .ok (.invokevirtual 70, 3) := by decide +kernel
theorem xd_Sh_acceptDescriptor_35 : decode xb_Sh_acceptDescriptor 35 = .ok (.istore_n 3, 1) := by decide +kernel
theorem xd_Sh_acceptDescriptor_36 : decode xb_Sh_acceptDescriptor 36 = .ok (.aload_n 1, 1) := by decide +kernel
theorem xd_Sh_acceptDescriptor_37 : decode xb_Sh_acceptDescriptor 37 = .ok (.getfield 27, 3) := by decide +kernel
theorem xd_Sh_acceptDescriptor_40 : decode xb_Sh_acceptDescriptor 40 = .ok (.iconst 3, 1) := by decide +kernel
theorem xd_Sh_acceptDescriptor_41 : decode xb_Sh_acceptDescriptor 41 = .ok (.if_icmp .ne 16, 3) := by decide +kernel
theorem xd_Sh_acceptDescriptor_44 : decode xb_Sh_acceptDescriptor 44 = .ok (.iload_n 2, 1) := by decide +kernel
theorem xd_Sh_acceptDescriptor_45 : decode xb_Sh_acceptDescriptor 45 = .ok (.iconst (-1), 1) := by decide +kernel
theorem xd_Sh_acceptDescriptor_46 : decode xb_Sh_acceptDescriptor 46 = .ok (.if_icmp .eq 11, 3) := by decide +kernel
theorem xd_Sh_acceptDescriptor_49 : decode xb_Sh_acceptDescriptor 49 = .ok (.iload_n 3, 1) := by decide +kernel
theorem xd_Sh_acceptDescriptor_50 : decode xb_Sh_acceptDescriptor 50 = .ok (.ifCond .eq 7, 3) := by decide +kernel
theorem xd_Sh_acceptDescriptor_53 : decode xb_Sh_acceptDescriptor 53 = .ok (.iconst 1, 1) := by decide +kernel
theorem xd_Sh_acceptDescriptor_54 : decode xb_Sh_acceptDescriptor 54 = .ok (.goto 4, 3) := by decide +kernel
theorem xd_Sh_acceptDescriptor_57 : decode xb_Sh_acceptDescriptor 57 = .ok (.iconst 0, 1) := by decide +kernel
theorem xd_Sh_acceptDescriptor_58 : decode xb_Sh_acceptDescriptor 58 = .ok (.istore 4, 2) := by decide +kernel
theorem xd_Sh_acceptDescriptor_60 : decode xb_Sh_acceptDescriptor 60 = .ok (.iload 4, 2) := by decide +kernel
theorem xd_Sh_acceptDescriptor_62 : decode xb_Sh_acceptDescriptor 62 = .ok (.ifCond .eq 12, 3) := by decide +kernel
theorem xd_Sh_acceptDescriptor_65 : decode xb_Sh_acceptDescriptor 65 = .ok (.aload_n 0, 1) := by decide +kernel
theorem xd_Sh_acceptDescriptor_66 : decode xb_Sh_acceptDescriptor 66 = .ok (.iload_n 2, 1) := by decide +kernel
theorem xd_Sh_acceptDescriptor_67 : decode xb_Sh_acceptDescriptor 67 = .ok (.iload_n 3, 1) := by decide +kernel
theorem xd_Sh_acceptDescriptor_68 : decode xb_Sh_acceptDescriptor 68 = .ok (.invokevirtual 74, 3) := by decide +kernel
theorem xd_Sh_acceptDescriptor_71 : decode xb_Sh_acceptDescriptor 71 = .ok (.ifnull 5, 3) := by decide +kernel
theorem xd_Sh_acceptDescriptor_74 : decode xb_Sh_acceptDescriptor 74 = .ok (.iconst (-1), 1) := by decide +kernel
theorem xd_Sh_acceptDescriptor_75 : decode xb_Sh_acceptDescriptor 75 = .ok (.ireturn, 1) := by decide +kernel
theorem xd_Sh_acceptDescriptor_76 : decode xb_Sh_acceptDescriptor 76 = .ok (.aload_n 0, 1) := by decide +kernel
theorem xd_Sh_acceptDescriptor_77 : decode xb_Sh_acceptDescriptor 77 = .ok (.getfield 17, 3) := by decide +kernel
theorem xd_Sh_acceptDescriptor_80 : decode xb_Sh_acceptDescriptor 80 = .ok (.bipush 12, 2) := by decide +kernel
theorem xd_Sh_acceptDescriptor_82 : decode xb_Sh_acceptDescriptor 82 = .ok (.if_icmp .lt 6, 3) := by decide +kernel
theorem xd_Sh_acceptDescriptor_85 : decode xb_Sh_acceptDescriptor 85 = .ok (.bipush (-2), 2) := by decide +kernel
theorem xd_Sh_acceptDescriptor_87 : decode xb_Sh_acceptDescriptor 87 = .ok (.ireturn, 1) := by decide +kernel
theorem xd_Sh_acceptDescriptor_88 : decode xb_Sh_acceptDescriptor 88 = .ok (.aload_n 0, 1) := by decide +kernel
theorem xd_Sh_acceptDescriptor_89 : decode xb_Sh_acceptDescriptor 89 = .ok (.getfield 11, 3) := by decide +kernel
theorem xd_Sh_acceptDescriptor_92 : decode xb_Sh_acceptDescriptor 92 = .ok (.aload_n 0, 1) := by decide +kernel
theorem xd_Sh_acceptDescriptor_93 : decode xb_Sh_acceptDescriptor 93 = .ok (.getfield 17, 3) := by decide +kernel
theorem xd_Sh_acceptDescriptor_96 : decode xb_Sh_acceptDescriptor 96 = .ok (.new 9, 3) := by decide +kernel
theorem xd_Sh_acceptDescriptor_99 : decode xb_Sh_acceptDescriptor 99 = .ok (.dup, 1) := by decide +kernel
theorem xd_Sh_acceptDescriptor_100 : decode xb_Sh_acceptDescriptor 100 = .ok (.aload_n 0, 1) := by decide +kernel
theorem xd_Sh_acceptDescriptor_101 : decode xb_Sh_acceptDescriptor 101 = .ok (.getfield 17, 3) := by decide +kernel
theorem xd_Sh_acceptDescriptor_104 : decode xb_Sh_acceptDescriptor 104 = .ok (.iload_n 2, 1) := by decide +kernel
theorem xd_Sh_acceptDescriptor_105 : decode xb_Sh_acceptDescriptor 105 = .ok (.iload_n 3, 1) := by decide +kernel
theorem xd_Sh_acceptDescriptor_106 : decode xb_Sh_acceptDescriptor 106 = .ok (.invokespecial 78, 3) := by decide +kernel
theorem xd_Sh_acceptDescriptor_109 : decode xb_Sh_acceptDescriptor 109 = .ok (.aastore, 1) := by decide +kernel
theorem xd_Sh_acceptDescriptor_110 : decode xb_Sh_acceptDescriptor 110 = .ok (.aload_n 0, 1) := by decide +kernel
theorem xd_Sh_acceptDescriptor_111 : decode xb_Sh_acceptDescriptor 111 = .ok (.dup, 1) := by decide +kernel
theorem xd_Sh_acceptDescriptor_112 : decode xb_Sh_acceptDescriptor 112 = .ok (.getfield 17, 3) := by decide +kernel
theorem xd_Sh_acceptDescriptor_115 : decode xb_Sh_acceptDescriptor 115 = .ok (.iconst 1, 1) := by decide +kernel
theorem xd_Sh_acceptDescriptor_116 : decode xb_Sh_acceptDescriptor 116 = .ok (.iadd, 1) := by decide +kernel
theorem xd_Sh_acceptDescriptor_117 : decode xb_Sh_acceptDescriptor 117 = .ok (.putfield 17, 3) := by decide +kernel
theorem xd_Sh_acceptDescriptor_120 : decode xb_Sh_acceptDescriptor 120 = .ok (.iconst 1, 1) := by decide +kernel
theorem xd_Sh_acceptDescriptor_121 : decode xb_Sh_acceptDescriptor 121 = .ok (.ireturn, 1) := by decide +kernel
theorem xd_Sh_acceptGrant_0 : decode xb_Sh_acceptGrant 0 = .ok (.aload_n 1, 1) := by decide +kernel
theorem xd_Sh_acceptGrant_1 : decode xb_Sh_acceptGrant 1 = .ok (.iconst 1, 1) := by decide +kernel
theorem xd_Sh_acceptGrant_2 : decode xb_Sh_acceptGrant 2 = .ok (.invokevirtual 70, 3) := by decide +kernel
theorem xd_Sh_acceptGrant_5 : decode xb_Sh_acceptGrant 5 = .ok (.istore_n 2, 1) := by decide +kernel
theorem xd_Sh_acceptGrant_6 : decode xb_Sh_acceptGrant 6 = .ok (.aload_n 1, 1) := by decide +kernel
theorem xd_Sh_acceptGrant_7 : decode xb_Sh_acceptGrant 7 = .ok (.getfield 27, 3) := by decide +kernel
theorem xd_Sh_acceptGrant_10 : decode xb_Sh_acceptGrant 10 = .ok (.iconst 2, 1) := by decide +kernel
theorem xd_Sh_acceptGrant_11 : decode xb_Sh_acceptGrant 11 = .ok (.if_icmp .ne 7, 3) := by decide +kernel
theorem xd_Sh_acceptGrant_14 : decode xb_Sh_acceptGrant 14 = .ok (.iconst 0, 1) := by decide +kernel
theorem xd_Sh_acceptGrant_15 : decode xb_Sh_acceptGrant 15 = .ok (.goto 8, 3) := by decide +kernel
theorem xd_Sh_acceptGrant_18 : decode xb_Sh_acceptGrant 18 = .ok (.aload_n 1, 1) := by decide +kernel
theorem xd_Sh_acceptGrant_19 : decode xb_Sh_acceptGrant 19 = .ok (.iconst 3, 1) := by decide +kernel
theorem xd_Sh_acceptGrant_20 : decode xb_Sh_acceptGrant 20 = .ok (.invokevirtual 70, 3) := by decide +kernel
theorem xd_Sh_acceptGrant_23 : decode xb_Sh_acceptGrant 23 = .ok (.istore_n 3, 1) := by decide +kernel
theorem xd_Sh_acceptGrant_24 : decode xb_Sh_acceptGrant 24 = .ok (.aload_n 1, 1) := by decide +kernel
theorem xd_Sh_acceptGrant_25 : decode xb_Sh_acceptGrant 25 = .ok (.getfield 27, 3) := by decide +kernel
theorem xd_Sh_acceptGrant_28 : decode xb_Sh_acceptGrant 28 = .ok (.iconst 4, 1) := by decide +kernel
theorem xd_Sh_acceptGrant_29 : decode xb_Sh_acceptGrant 29 = .ok (.if_icmp .ne 21, 3) := by decide +kernel
theorem xd_Sh_acceptGrant_32 : decode xb_Sh_acceptGrant 32 = .ok (.aload_n 1, 1) := by decide +kernel
theorem xd_Sh_acceptGrant_33 : decode xb_Sh_acceptGrant 33 = .ok (.iconst 2, 1) := by decide +kernel
theorem xd_Sh_acceptGrant_34 : decode xb_Sh_acceptGrant 34 = .ok (.ldc 109, 2) := by decide +kernel
theorem xd_Sh_acceptGrant_36 : decode xb_Sh_acceptGrant 36 = .ok (.invokevirtual 34, 3) := by decide +kernel
theorem xd_Sh_acceptGrant_39 : decode xb_Sh_acceptGrant 39 = .ok (.ifCond .eq 11, 3) := by decide +kernel
theorem xd_Sh_acceptGrant_42 : decode xb_Sh_acceptGrant 42 = .ok (.iload_n 3, 1) := by decide +kernel
theorem xd_Sh_acceptGrant_43 : decode xb_Sh_acceptGrant 43 = .ok (.ifCond .eq 7, 3) := by decide +kernel
theorem xd_Sh_acceptGrant_46 : decode xb_Sh_acceptGrant 46 = .ok (.iconst 1, 1) := by decide +kernel
theorem xd_Sh_acceptGrant_47 : decode xb_Sh_acceptGrant 47 = .ok (.goto 4, 3) := by decide +kernel
theorem xd_Sh_acceptGrant_50 : decode xb_Sh_acceptGrant 50 = .ok (.iconst 0, 1) := by decide +kernel
theorem xd_Sh_acceptGrant_51 : decode xb_Sh_acceptGrant 51 = .ok (.istore 4, 2) := by decide +kernel
theorem xd_Sh_acceptGrant_53 : decode xb_Sh_acceptGrant 53 = .ok (.iload_n 2, 1) := by decide +kernel
theorem xd_Sh_acceptGrant_54 : decode xb_Sh_acceptGrant 54 = .ok (.ifCond .eq 16, 3) := by decide +kernel
theorem xd_Sh_acceptGrant_57 : decode xb_Sh_acceptGrant 57 = .ok (.aload_n 1, 1) := by decide +kernel
theorem xd_Sh_acceptGrant_58 : decode xb_Sh_acceptGrant 58 = .ok (.getfield 27, 3) := by decide +kernel
theorem xd_Sh_acceptGrant_61 : decode xb_Sh_acceptGrant 61 = .ok (.iconst 2, 1) := by decide +kernel
theorem xd_Sh_acceptGrant_62 : decode xb_Sh_acceptGrant 62 = .ok (.if_icmp .eq 10, 3) := by decide +kernel
theorem xd_Sh_acceptGrant_65 : decode xb_Sh_acceptGrant 65 = .ok (.iload 4, 2) := by decide +kernel
theorem xd_Sh_acceptGrant_67 : decode xb_Sh_acceptGrant 67 = .ok (.ifCond .ne 5, 3) := by decide +kernel
theorem xd_Sh_acceptGrant_70 : decode xb_Sh_acceptGrant 70 = .ok (.iconst (-1), 1) := by decide +kernel
theorem xd_Sh_acceptGrant_71 : decode xb_Sh_acceptGrant 71 = .ok (.ireturn, 1) := by decide +kernel
theorem xd_Sh_acceptGrant_72 : decode xb_Sh_acceptGrant 72 = .ok (.aload_n 0, 1) := by decide +kernel
theorem xd_Sh_acceptGrant_73 : decode xb_Sh_acceptGrant 73 = .ok (.invokevirtual 81, 3) := by decide +kernel
theorem xd_Sh_acceptGrant_76 : decode xb_Sh_acceptGrant 76 = .ok (.astore 5, 2) := by decide +kernel
theorem xd_Sh_acceptGrant_78 : decode xb_Sh_acceptGrant 78 = .ok (.aload 5, 2) := by decide +kernel
theorem xd_Sh_acceptGrant_80 : decode xb_Sh_acceptGrant 80 = .ok (.ifnonnull 6, 3) := by decide +kernel
theorem xd_Sh_acceptGrant_83 : decode xb_Sh_acceptGrant 83 = .ok (.bipush (-2), 2) := by decide +kernel
theorem xd_Sh_acceptGrant_85 : decode xb_Sh_acceptGrant 85 = .ok (.ireturn, 1) := by decide +kernel
theorem xd_Sh_acceptGrant_86 : decode xb_Sh_acceptGrant 86 = .ok (.aload_n 1, 1) := by decide +kernel
theorem xd_Sh_acceptGrant_87 : decode xb_Sh_acceptGrant 87 = .ok (.iconst 0, 1) := by decide +kernel
theorem xd_Sh_acceptGrant_88 : decode xb_Sh_acceptGrant 88 = .ok (.ldc 47, 2) := by decide +kernel
theorem xd_Sh_acceptGrant_90 : decode xb_Sh_acceptGrant 90 = .ok (.invokevirtual 34, 3) := by decide +kernel
theorem xd_Sh_acceptGrant_93 : decode xb_Sh_acceptGrant 93 = .ok (.ifCond .eq 12, 3) := by decide +kernel
theorem xd_Sh_acceptGrant_96 : decode xb_Sh_acceptGrant 96 = .ok (.aload 5, 2) := by decide +kernel
theorem xd_Sh_acceptGrant_98 : decode xb_Sh_acceptGrant 98 = .ok (.iload_n 2, 1) := by decide +kernel
theorem xd_Sh_acceptGrant_99 : decode xb_Sh_acceptGrant 99 = .ok (.invokevirtual 111, 3) := by decide +kernel
theorem xd_Sh_acceptGrant_102 : decode xb_Sh_acceptGrant 102 = .ok (.goto 9, 3) := by decide +kernel
theorem xd_Sh_acceptGrant_105 : decode xb_Sh_acceptGrant 105 = .ok (.aload 5, 2) := by decide +kernel
theorem xd_Sh_acceptGrant_107 : decode xb_Sh_acceptGrant 107 = .ok (.iload_n 2, 1) := by decide +kernel
theorem xd_Sh_acceptGrant_108 : decode xb_Sh_acceptGrant 108 = .ok (.invokevirtual 115, 3) := by decide +kernel
theorem xd_Sh_acceptGrant_111 : decode xb_Sh_acceptGrant 111 = .ok (.astore 6, 2) := by decide +kernel
theorem xd_Sh_acceptGrant_113 : decode xb_Sh_acceptGrant 113 = .ok (.aload 6, 2) := by decide +kernel
theorem xd_Sh_acceptGrant_115 : decode xb_Sh_acceptGrant 115 = .ok (.ifnonnull 5, 3) := by decide +kernel
theorem xd_Sh_acceptGrant_118 : decode xb_Sh_acceptGrant 118 = .ok (.iconst (-1), 1) := by decide +kernel
theorem xd_Sh_acceptGrant_119 : decode xb_Sh_acceptGrant 119 = .ok (.ireturn, 1) := by decide +kernel
theorem xd_Sh_acceptGrant_120 : decode xb_Sh_acceptGrant 120 = .ok (.aload 5, 2) := by decide +kernel
theorem xd_Sh_acceptGrant_122 : decode xb_Sh_acceptGrant 122 = .ok (.getfield 95, 3) := by decide +kernel
theorem xd_Sh_acceptGrant_125 : decode xb_Sh_acceptGrant 125 = .ok (.ifCond .ne 12, 3) := by decide +kernel
theorem xd_Sh_acceptGrant_128 : decode xb_Sh_acceptGrant 128 = .ok (.aload 6, 2) := by decide +kernel
theorem xd_Sh_acceptGrant_130 : decode xb_Sh_acceptGrant 130 = .ok (.iload_n 3, 1) := by decide +kernel
theorem xd_Sh_acceptGrant_131 : decode xb_Sh_acceptGrant 131 = .ok (.invokevirtual 118, 3) := by decide +kernel
theorem xd_Sh_acceptGrant_134 : decode xb_Sh_acceptGrant 134 = .ok (.ifCond .ne 6, 3) := by decide +kernel
theorem xd_Sh_acceptGrant_137 : decode xb_Sh_acceptGrant 137 = .ok (.bipush (-2), 2) := by decide +kernel
theorem xd_Sh_acceptGrant_139 : decode xb_Sh_acceptGrant 139 = .ok (.ireturn, 1) := by decide +kernel
theorem xd_Sh_acceptGrant_140 : decode xb_Sh_acceptGrant 140 = .ok (.aload 6, 2) := by decide +kernel
theorem xd_Sh_acceptGrant_142 : decode xb_Sh_acceptGrant 142 = .ok (.iload_n 3, 1) := by decide +kernel
theorem xd_Sh_acceptGrant_143 : decode xb_Sh_acceptGrant 143 = .ok (.invokevirtual 121, 3) := by decide +kernel
theorem xd_Sh_acceptGrant_146 : decode xb_Sh_acceptGrant 146 = .ok (.iconst 2, 1) := by decide +kernel
theorem xd_Sh_acceptGrant_147 : decode xb_Sh_acceptGrant 147 = .ok (.ireturn, 1) := by decide +kernel
theorem xd_Sh_acceptPackage_0 : decode xb_Sh_acceptPackage 0 = .ok (.aload_n 1, 1) := by decide +kernel
theorem xd_Sh_acceptPackage_1 : decode xb_Sh_acceptPackage 1 = .ok (.iconst 1, 1) := by decide +kernel
theorem xd_Sh_acceptPackage_2 : decode xb_Sh_acceptPackage 2 = .ok (.invokevirtual 70, 3) := by decide +kernel
theorem xd_Sh_acceptPackage_5 : decode xb_Sh_acceptPackage 5 = .ok (.istore_n 2, 1) := by decide +kernel
theorem xd_Sh_acceptPackage_6 : decode xb_Sh_acceptPackage 6 = .ok (.aload_n 1, 1) := by decide +kernel
theorem xd_Sh_acceptPackage_7 : decode xb_Sh_acceptPackage 7 = .ok (.getfield 27, 3) := by decide +kernel
theorem xd_Sh_acceptPackage_10 : decode xb_Sh_acceptPackage 10 = .ok (.iconst 2, 1) := by decide +kernel
theorem xd_Sh_acceptPackage_11 : decode xb_Sh_acceptPackage 11 = .ok (.if_icmp .ne 7, 3) := by decide +kernel
theorem xd_Sh_acceptPackage_14 : decode xb_Sh_acceptPackage 14 = .ok (.iload_n 2, 1) := by decide +kernel
theorem xd_Sh_acceptPackage_15 : decode xb_Sh_acceptPackage 15 = .ok (.ifCond .ne 5, 3) := by decide +kernel
theorem xd_Sh_acceptPackage_18 : decode xb_Sh_acceptPackage 18 = .ok (.iconst (-1), 1) := by decide +kernel
theorem xd_Sh_acceptPackage_19 : decode xb_Sh_acceptPackage 19 = .ok (.ireturn, 1) := by decide +kernel
theorem xd_Sh_acceptPackage_20 : decode xb_Sh_acceptPackage 20 = .ok (.aload_n 0, 1) := by decide +kernel
theorem xd_Sh_acceptPackage_21 : decode xb_Sh_acceptPackage 21 = .ok (.invokevirtual 81, 3) := by decide +kernel
theorem xd_Sh_acceptPackage_24 : decode xb_Sh_acceptPackage 24 = .ok (.astore_n 3, 1) := by decide +kernel
theorem xd_Sh_acceptPackage_25 : decode xb_Sh_acceptPackage 25 = .ok (.aload_n 3, 1) := by decide +kernel
theorem xd_Sh_acceptPackage_26 : decode xb_Sh_acceptPackage 26 = .ok (.ifnonnull 6, 3) := by decide +kernel
theorem xd_Sh_acceptPackage_29 : decode xb_Sh_acceptPackage 29 = .ok (.bipush (-2), 2) := by decide +kernel
theorem xd_Sh_acceptPackage_31 : decode xb_Sh_acceptPackage 31 = .ok (.ireturn, 1) := by decide +kernel
theorem xd_Sh_acceptPackage_32 : decode xb_Sh_acceptPackage 32 = .ok (.aload_n 3, 1) := by decide +kernel
theorem xd_Sh_acceptPackage_33 : decode xb_Sh_acceptPackage 33 = .ok (.getfield 85, 3) := by decide +kernel
theorem xd_Sh_acceptPackage_36 : decode xb_Sh_acceptPackage 36 = .ok (.iload_n 2, 1) := by decide +kernel
theorem xd_Sh_acceptPackage_37 : decode xb_Sh_acceptPackage 37 = .ok (.invokevirtual 89, 3) := by decide +kernel
theorem xd_Sh_acceptPackage_40 : decode xb_Sh_acceptPackage 40 = .ok (.ifCond .eq 5, 3) := by decide +kernel
theorem xd_Sh_acceptPackage_43 : decode xb_Sh_acceptPackage 43 = .ok (.iconst (-1), 1) := by decide +kernel
theorem xd_Sh_acceptPackage_44 : decode xb_Sh_acceptPackage 44 = .ok (.ireturn, 1) := by decide +kernel
theorem xd_Sh_acceptPackage_45 : decode xb_Sh_acceptPackage 45 = .ok (.aload_n 3, 1) := by decide +kernel
theorem xd_Sh_acceptPackage_46 : decode xb_Sh_acceptPackage 46 = .ok (.getfield 95, 3) := by decide +kernel
theorem xd_Sh_acceptPackage_49 : decode xb_Sh_acceptPackage 49 = .ok (.ifCond .ne 13, 3) := by decide +kernel
theorem xd_Sh_acceptPackage_52 : decode xb_Sh_acceptPackage 52 = .ok (.aload_n 3, 1) := by decide +kernel
theorem xd_Sh_acceptPackage_53 : decode xb_Sh_acceptPackage 53 = .ok (.getfield 85, 3) := by decide +kernel
theorem xd_Sh_acceptPackage_56 : decode xb_Sh_acceptPackage 56 = .ok (.invokevirtual 99, 3) := by decide +kernel
theorem xd_Sh_acceptPackage_59 : decode xb_Sh_acceptPackage 59 = .ok (.ifCond .eq 6, 3) := by decide +kernel
theorem xd_Sh_acceptPackage_62 : decode xb_Sh_acceptPackage 62 = .ok (.bipush (-2), 2) := by decide +kernel
theorem xd_Sh_acceptPackage_64 : decode xb_Sh_acceptPackage 64 = .ok (.ireturn, 1) := by decide +kernel
theorem xd_Sh_acceptPackage_65 : decode xb_Sh_acceptPackage 65 = .ok (.aload_n 3, 1) := by decide +kernel
theorem xd_Sh_acceptPackage_66 : decode xb_Sh_acceptPackage 66 = .ok (.iload_n 2, 1) := by decide +kernel
theorem xd_Sh_acceptPackage_67 : decode xb_Sh_acceptPackage 67 = .ok (.invokevirtual 103, 3) := by decide +kernel
theorem xd_Sh_acceptPackage_70 : decode xb_Sh_acceptPackage 70 = .ok (.iconst 2, 1) := by decide +kernel
theorem xd_Sh_acceptPackage_71 : decode xb_Sh_acceptPackage 71 = .ok (.ireturn, 1) := by decide +kernel
theorem xd_Sh_acceptRequired_0 : decode xb_Sh_acceptRequired 0 = .ok (.aload_n 1, 1) := by decide +kernel
theorem xd_Sh_acceptRequired_1 : decode xb_Sh_acceptRequired 1 = .ok (.getfield 27, 3) := by decide +kernel
theorem xd_Sh_acceptRequired_4 : decode xb_Sh_acceptRequired 4 = .ok (.iconst 3, 1) := by decide +kernel
theorem xd_Sh_acceptRequired_5 : decode xb_Sh_acceptRequired 5 = .ok (.if_icmp .lt 17, 3) := by decide +kernel
theorem xd_Sh_acceptRequired_8 : decode xb_Sh_acceptRequired 8 = .ok (.aload_n 1, 1) := by decide +kernel
theorem xd_Sh_acceptRequired_9 : decode xb_Sh_acceptRequired 9 = .ok (.iconst 1, 1) := by decide +kernel
theorem xd_Sh_acceptRequired_10 : decode xb_Sh_acceptRequired 10 = .ok (.ldc 124, 2) := by decide +kernel
theorem xd_Sh_acceptRequired_12 : decode xb_Sh_acceptRequired 12 = .ok (.invokevirtual 34, 3) := by decide +kernel
theorem xd_Sh_acceptRequired_15 : decode xb_Sh_acceptRequired 15 = .ok (.ifCond .eq 7, 3) := by decide +kernel
theorem xd_Sh_acceptRequired_18 : decode xb_Sh_acceptRequired 18 = .ok (.iconst 1, 1) := by decide +kernel
theorem xd_Sh_acceptRequired_19 : decode xb_Sh_acceptRequired 19 = .ok (.goto 4, 3) := by decide +kernel
theorem xd_Sh_acceptRequired_22 : decode xb_Sh_acceptRequired 22 = .ok (.iconst 0, 1) := by decide +kernel
theorem xd_Sh_acceptRequired_23 : decode xb_Sh_acceptRequired 23 = .ok (.istore_n 2, 1) := by decide +kernel
theorem xd_Sh_acceptRequired_24 : decode xb_Sh_acceptRequired 24 = .ok (.aload_n 1, 1) := by decide +kernel
theorem xd_Sh_acceptRequired_25 : decode xb_Sh_acceptRequired 25 = .ok (.getfield 27, 3) := by decide +kernel
theorem xd_Sh_acceptRequired_28 : decode xb_Sh_acceptRequired 28 = .ok (.iconst 3, 1) := by decide +kernel
theorem xd_Sh_acceptRequired_29 : decode xb_Sh_acceptRequired 29 = .ok (.if_icmp .lt 22, 3) := by decide +kernel
theorem xd_Sh_acceptRequired_32 : decode xb_Sh_acceptRequired 32 = .ok (.aload_n 1, 1) := by decide +kernel
theorem xd_Sh_acceptRequired_33 : decode xb_Sh_acceptRequired 33 = .ok (.aload_n 1, 1) := by decide +kernel
theorem xd_Sh_acceptRequired_34 : decode xb_Sh_acceptRequired 34 = .ok (.getfield 27, 3) := by decide +kernel
theorem xd_Sh_acceptRequired_37 : decode xb_Sh_acceptRequired 37 = .ok (.iconst 2, 1) := by decide +kernel
theorem xd_Sh_acceptRequired_38 : decode xb_Sh_acceptRequired 38 = .ok (.isub, 1) := by decide +kernel
theorem xd_Sh_acceptRequired_39 : decode xb_Sh_acceptRequired 39 = .ok (.ldc 126, 2) := by decide +kernel
theorem xd_Sh_acceptRequired_41 : decode xb_Sh_acceptRequired 41 = .ok (.invokevirtual 34, 3) := by decide +kernel
theorem xd_Sh_acceptRequired_44 : decode xb_Sh_acceptRequired 44 = .ok (.ifCond .eq 7, 3) := by decide +kernel
theorem xd_Sh_acceptRequired_47 : decode xb_Sh_acceptRequired 47 = .ok (.iconst 1, 1) := by decide +kernel
theorem xd_Sh_acceptRequired_48 : decode xb_Sh_acceptRequired 48 = .ok (.goto 4, 3) := by decide +kernel
theorem xd_Sh_acceptRequired_51 : decode xb_Sh_acceptRequired 51 = .ok (.iconst 0, 1) := by decide +kernel
theorem xd_Sh_acceptRequired_52 : decode xb_Sh_acceptRequired 52 = .ok (.istore_n 3, 1) := by decide +kernel
theorem xd_Sh_acceptRequired_53 : decode xb_Sh_acceptRequired 53 = .ok (.iconst 2, 1) := by decide +kernel
theorem xd_Sh_acceptRequired_54 : decode xb_Sh_acceptRequired 54 = .ok (.iload_n 2, 1) := by decide +kernel
theorem xd_Sh_acceptRequired_55 : decode xb_Sh_acceptRequired 55 = .ok (.ifCond .eq 7, 3) := by decide +kernel
theorem xd_Sh_acceptRequired_58 : decode xb_Sh_acceptRequired 58 = .ok (.iconst 1, 1) := by decide +kernel
theorem xd_Sh_acceptRequired_59 : decode xb_Sh_acceptRequired 59 = .ok (.goto 4, 3) := by decide +kernel
theorem xd_Sh_acceptRequired_62 : decode xb_Sh_acceptRequired 62 = .ok (.iconst 0, 1) := by decide +kernel
theorem xd_Sh_acceptRequired_63 : decode xb_Sh_acceptRequired 63 = .ok (.iadd, 1) := by decide +kernel
theorem xd_Sh_acceptRequired_64 : decode xb_Sh_acceptRequired 64 = .ok (.iload_n 3, 1) := by decide +kernel
theorem xd_Sh_acceptRequired_65 : decode xb_Sh_acceptRequired 65 = .ok (.ifCond .eq 7, 3) := by decide +kernel
theorem xd_Sh_acceptRequired_68 : decode xb_Sh_acceptRequired 68 = .ok (.iconst 1, 1) := by decide +kernel
theorem xd_Sh_acceptRequired_69 : decode xb_Sh_acceptRequired 69 = .ok (.goto 4, 3) := by decide +kernel
theorem xd_Sh_acceptRequired_72 : decode xb_Sh_acceptRequired 72 = .ok (.iconst 0, 1) := by decide +kernel
theorem xd_Sh_acceptRequired_73 : decode xb_Sh_acceptRequired 73 = .ok (.iadd, 1) := by decide +kernel
theorem xd_Sh_acceptRequired_74 : decode xb_Sh_acceptRequired 74 = .ok (.istore 4, 2) := by decide +kernel
theorem xd_Sh_acceptRequired_76 : decode xb_Sh_acceptRequired 76 = .ok (.aload_n 1, 1) := by decide +kernel
theorem xd_Sh_acceptRequired_77 : decode xb_Sh_acceptRequired 77 = .ok (.aload_n 1, 1) := by decide +kernel
theorem xd_Sh_acceptRequired_78 : decode xb_Sh_acceptRequired 78 = .ok (.getfield 27, 3) := by decide +kernel
theorem xd_Sh_acceptRequired_81 : decode xb_Sh_acceptRequired 81 = .ok (.iconst 1, 1) := by decide +kernel
theorem xd_Sh_acceptRequired_82 : decode xb_Sh_acceptRequired 82 = .ok (.isub, 1) := by decide +kernel
theorem xd_Sh_acceptRequired_83 : decode xb_Sh_acceptRequired 83 = .ok (.invokevirtual 70, 3) := by decide +kernel
theorem xd_Sh_acceptRequired_86 : decode xb_Sh_acceptRequired 86 = .ok (.istore 5, 2) := by decide +kernel
theorem xd_Sh_acceptRequired_88 : decode xb_Sh_acceptRequired 88 = .ok (.aload_n 1, 1) := by decide +kernel
theorem xd_Sh_acceptRequired_89 : decode xb_Sh_acceptRequired 89 = .ok (.getfield 27, 3) := by decide +kernel
theorem xd_Sh_acceptRequired_92 : decode xb_Sh_acceptRequired 92 = .ok (.iload 4, 2) := by decide +kernel
theorem xd_Sh_acceptRequired_94 : decode xb_Sh_acceptRequired 94 = .ok (.if_icmp .ne 8, 3) := by decide +kernel
theorem xd_Sh_acceptRequired_97 : decode xb_Sh_acceptRequired 97 = .ok (.iload 5, 2) := by decide +kernel
theorem xd_Sh_acceptRequired_99 : decode xb_Sh_acceptRequired 99 = .ok (.ifCond .ne 5, 3) := by decide +kernel
theorem xd_Sh_acceptRequired_102 : decode xb_Sh_acceptRequired 102 = .ok (.iconst (-1), 1) := by decide +kernel
theorem xd_Sh_acceptRequired_103 : decode xb_Sh_acceptRequired 103 = .ok (.ireturn, 1) := by decide +kernel
theorem xd_Sh_acceptRequired_104 : decode xb_Sh_acceptRequired 104 = .ok (.aload_n 0, 1) := by decide +kernel
theorem xd_Sh_acceptRequired_105 : decode xb_Sh_acceptRequired 105 = .ok (.invokevirtual 81, 3) := by decide +kernel
theorem xd_Sh_acceptRequired_108 : decode xb_Sh_acceptRequired 108 = .ok (.astore 6, 2) := by decide +kernel
theorem xd_Sh_acceptRequired_110 : decode xb_Sh_acceptRequired 110 = .ok (.aload 6, 2) := by decide +kernel
theorem xd_Sh_acceptRequired_112 : decode xb_Sh_acceptRequired 112 = .ok (.ifnonnull 6, 3) := by decide +kernel
theorem xd_Sh_acceptRequired_115 : decode xb_Sh_acceptRequired 115 = .ok (.bipush (-2), 2) := by decide +kernel
theorem xd_Sh_acceptRequired_117 : decode xb_Sh_acceptRequired 117 = .ok (.ireturn, 1) := by decide +kernel
theorem xd_Sh_acceptRequired_118 : decode xb_Sh_acceptRequired 118 = .ok (.aload 6, 2) := by decide +kernel
theorem xd_Sh_acceptRequired_120 : decode xb_Sh_acceptRequired 120 = .ok (.getfield 24, 3) := by decide +kernel
theorem xd_Sh_acceptRequired_123 : decode xb_Sh_acceptRequired 123 = .ok (.iload 5, 2) := by decide +kernel
theorem xd_Sh_acceptRequired_125 : decode xb_Sh_acceptRequired 125 = .ok (.if_icmp .eq 16, 3) := by decide +kernel
theorem xd_Sh_acceptRequired_128 : decode xb_Sh_acceptRequired 128 = .ok (.aload 6, 2) := by decide +kernel
theorem xd_Sh_acceptRequired_130 : decode xb_Sh_acceptRequired 130 = .ok (.getfield 128, 3) := by decide +kernel
theorem xd_Sh_acceptRequired_133 : decode xb_Sh_acceptRequired 133 = .ok (.iload 5, 2) := by decide +kernel
theorem xd_Sh_acceptRequired_135 : decode xb_Sh_acceptRequired 135 = .ok (.invokevirtual 89, 3) := by decide +kernel
theorem xd_Sh_acceptRequired_138 : decode xb_Sh_acceptRequired 138 = .ok (.ifCond .eq 5, 3) := by decide +kernel
theorem xd_Sh_acceptRequired_141 : decode xb_Sh_acceptRequired 141 = .ok (.iconst (-1), 1) := by decide +kernel
theorem xd_Sh_acceptRequired_142 : decode xb_Sh_acceptRequired 142 = .ok (.ireturn, 1) := by decide +kernel
theorem xd_Sh_acceptRequired_143 : decode xb_Sh_acceptRequired 143 = .ok (.aload 6, 2) := by decide +kernel
theorem xd_Sh_acceptRequired_145 : decode xb_Sh_acceptRequired 145 = .ok (.getfield 95, 3) := by decide +kernel
theorem xd_Sh_acceptRequired_148 : decode xb_Sh_acceptRequired 148 = .ok (.ifCond .ne 14, 3) := by decide +kernel
theorem xd_Sh_acceptRequired_151 : decode xb_Sh_acceptRequired 151 = .ok (.aload 6, 2) := by decide +kernel
theorem xd_Sh_acceptRequired_153 : decode xb_Sh_acceptRequired 153 = .ok (.getfield 128, 3) := by decide +kernel
theorem xd_Sh_acceptRequired_156 : decode xb_Sh_acceptRequired 156 = .ok (.invokevirtual 99, 3) := by decide +kernel
theorem xd_Sh_acceptRequired_159 : decode xb_Sh_acceptRequired 159 = .ok (.ifCond .eq 6, 3) := by decide +kernel
theorem xd_Sh_acceptRequired_162 : decode xb_Sh_acceptRequired 162 = .ok (.bipush (-2), 2) := by decide +kernel
theorem xd_Sh_acceptRequired_164 : decode xb_Sh_acceptRequired 164 = .ok (.ireturn, 1) := by decide +kernel
theorem xd_Sh_acceptRequired_165 : decode xb_Sh_acceptRequired 165 = .ok (.aload 6, 2) := by decide +kernel
theorem xd_Sh_acceptRequired_167 : decode xb_Sh_acceptRequired 167 = .ok (.iload 5, 2) := by decide +kernel
theorem xd_Sh_acceptRequired_169 : decode xb_Sh_acceptRequired 169 = .ok (.iload_n 2, 1) := by decide +kernel
theorem xd_Sh_acceptRequired_170 : decode xb_Sh_acceptRequired 170 = .ok (.iload_n 3, 1) := by decide +kernel
theorem xd_Sh_acceptRequired_171 : decode xb_Sh_acceptRequired 171 = .ok (.invokevirtual 131, 3) := by decide +kernel
theorem xd_Sh_acceptRequired_174 : decode xb_Sh_acceptRequired 174 = .ok (.iconst 2, 1) := by decide +kernel
theorem xd_Sh_acceptRequired_175 : decode xb_Sh_acceptRequired 175 = .ok (.ireturn, 1) := by decide +kernel
theorem xd_Sh_acceptService_0 : decode xb_Sh_acceptService 0 = .ok (.aload_n 1, 1) := by decide +kernel
theorem xd_Sh_acceptService_1 : decode xb_Sh_acceptService 1 = .ok (.iconst 1, 1) := by decide +kernel
theorem xd_Sh_acceptService_2 : decode xb_Sh_acceptService 2 = .ok (.invokevirtual 70, 3) := by decide +kernel
theorem xd_Sh_acceptService_5 : decode xb_Sh_acceptService 5 = .ok (.istore_n 2, 1) := by decide +kernel
theorem xd_Sh_acceptService_6 : decode xb_Sh_acceptService 6 = .ok (.aload_n 1, 1) := by decide +kernel
theorem xd_Sh_acceptService_7 : decode xb_Sh_acceptService 7 = .ok (.getfield 27, 3) := by decide +kernel
theorem xd_Sh_acceptService_10 : decode xb_Sh_acceptService 10 = .ok (.iconst 2, 1) := by decide +kernel
theorem xd_Sh_acceptService_11 : decode xb_Sh_acceptService 11 = .ok (.if_icmp .ne 7, 3) := by decide +kernel
theorem xd_Sh_acceptService_14 : decode xb_Sh_acceptService 14 = .ok (.iload_n 2, 1) := by decide +kernel
theorem xd_Sh_acceptService_15 : decode xb_Sh_acceptService 15 = .ok (.ifCond .ne 5, 3) := by decide +kernel
theorem xd_Sh_acceptService_18 : decode xb_Sh_acceptService 18 = .ok (.iconst (-1), 1) := by decide +kernel
theorem xd_Sh_acceptService_19 : decode xb_Sh_acceptService 19 = .ok (.ireturn, 1) := by decide +kernel
theorem xd_Sh_acceptService_20 : decode xb_Sh_acceptService 20 = .ok (.aload_n 0, 1) := by decide +kernel
theorem xd_Sh_acceptService_21 : decode xb_Sh_acceptService 21 = .ok (.invokevirtual 81, 3) := by decide +kernel
theorem xd_Sh_acceptService_24 : decode xb_Sh_acceptService 24 = .ok (.astore_n 3, 1) := by decide +kernel
theorem xd_Sh_acceptService_25 : decode xb_Sh_acceptService 25 = .ok (.aload_n 3, 1) := by decide +kernel
theorem xd_Sh_acceptService_26 : decode xb_Sh_acceptService 26 = .ok (.ifnonnull 6, 3) := by decide +kernel
theorem xd_Sh_acceptService_29 : decode xb_Sh_acceptService 29 = .ok (.bipush (-2), 2) := by decide +kernel
theorem xd_Sh_acceptService_31 : decode xb_Sh_acceptService 31 = .ok (.ireturn, 1) := by decide +kernel
theorem xd_Sh_acceptService_32 : decode xb_Sh_acceptService 32 = .ok (.aload_n 1, 1) := by decide +kernel
theorem xd_Sh_acceptService_33 : decode xb_Sh_acceptService 33 = .ok (.iconst 0, 1) := by decide +kernel
theorem xd_Sh_acceptService_34 : decode xb_Sh_acceptService 34 = .ok (.ldc 59, 2) := by decide +kernel
theorem xd_Sh_acceptService_36 : decode xb_Sh_acceptService 36 = .ok (.invokevirtual 34, 3) := by decide +kernel
theorem xd_Sh_acceptService_39 : decode xb_Sh_acceptService 39 = .ok (.ifCond .eq 10, 3) := by decide +kernel
theorem xd_Sh_acceptService_42 : decode xb_Sh_acceptService 42 = .ok (.aload_n 3, 1) := by decide +kernel
theorem xd_Sh_acceptService_43 : decode xb_Sh_acceptService 43 = .ok (.getfield 135, 3) := by decide +kernel
theorem xd_Sh_acceptService_46 : decode xb_Sh_acceptService 46 = .ok (.goto 7, 3) := by decide +kernel
theorem xd_Sh_acceptService_49 : decode xb_Sh_acceptService 49 = .ok (.aload_n 3, 1) := by decide +kernel
theorem xd_Sh_acceptService_50 : decode xb_Sh_acceptService 50 = .ok (.getfield 138, 3) := by decide +kernel
theorem xd_Sh_acceptService_53 : decode xb_Sh_acceptService 53 = .ok (.astore 4, 2) := by decide +kernel
theorem xd_Sh_acceptService_55 : decode xb_Sh_acceptService 55 = .ok (.aload 4, 2) := by decide +kernel
theorem xd_Sh_acceptService_57 : decode xb_Sh_acceptService 57 = .ok (.iload_n 2, 1) := by decide +kernel
theorem xd_Sh_acceptService_58 : decode xb_Sh_acceptService 58 = .ok (.invokevirtual 89, 3) := by decide +kernel
theorem xd_Sh_acceptService_61 : decode xb_Sh_acceptService 61 = .ok (.ifCond .eq 5, 3) := by decide +kernel
theorem xd_Sh_acceptService_64 : decode xb_Sh_acceptService 64 = .ok (.iconst (-1), 1) := by decide +kernel
theorem xd_Sh_acceptService_65 : decode xb_Sh_acceptService 65 = .ok (.ireturn, 1) := by decide +kernel
theorem xd_Sh_acceptService_66 : decode xb_Sh_acceptService 66 = .ok (.aload_n 3, 1) := by decide +kernel
theorem xd_Sh_acceptService_67 : decode xb_Sh_acceptService 67 = .ok (.getfield 95, 3) := by decide +kernel
theorem xd_Sh_acceptService_70 : decode xb_Sh_acceptService 70 = .ok (.ifCond .ne 11, 3) := by decide +kernel
theorem xd_Sh_acceptService_73 : decode xb_Sh_acceptService 73 = .ok (.aload 4, 2) := by decide +kernel
theorem xd_Sh_acceptService_75 : decode xb_Sh_acceptService 75 = .ok (.invokevirtual 99, 3) := by decide +kernel
theorem xd_Sh_acceptService_78 : decode xb_Sh_acceptService 78 = .ok (.ifCond .eq 6, 3) := by decide +kernel
theorem xd_Sh_acceptService_81 : decode xb_Sh_acceptService 81 = .ok (.bipush (-2), 2) := by decide +kernel
theorem xd_Sh_acceptService_83 : decode xb_Sh_acceptService 83 = .ok (.ireturn, 1) := by decide +kernel
theorem xd_Sh_acceptService_84 : decode xb_Sh_acceptService 84 = .ok (.aload 4, 2) := by decide +kernel
theorem xd_Sh_acceptService_86 : decode xb_Sh_acceptService 86 = .ok (.iload_n 2, 1) := by decide +kernel
theorem xd_Sh_acceptService_87 : decode xb_Sh_acceptService 87 = .ok (.invokevirtual 141, 3) := by decide +kernel
theorem xd_Sh_acceptService_90 : decode xb_Sh_acceptService 90 = .ok (.iconst 2, 1) := by decide +kernel
theorem xd_Sh_acceptService_91 : decode xb_Sh_acceptService 91 = .ok (.ireturn, 1) := by decide +kernel
theorem yw_0 : (Cond.fieldLink "LayerDesk$Line" 24 "LayerDesk$Line" "words" "I") ∈ wT := wT_t (List.mem_append_left _ (List.mem_of_getElem? (i := 40) rfl)) rfl
theorem yw_1 : (Cond.fieldLink "LayerDesk$Line" 17 "LayerDesk$Line" "ends" "[I") ∈ wT := wT_t (List.mem_append_left _ (List.mem_of_getElem? (i := 38) rfl)) rfl
theorem yw_2 : (Cond.fieldLink "LayerDesk$Line" 13 "LayerDesk$Line" "starts" "[I") ∈ wT := wT_t (List.mem_append_left _ (List.mem_of_getElem? (i := 37) rfl)) rfl
theorem yw_3 : (Cond.code xy_JS_length xb_JS_length 1 (some .int)) ∈ wT := wT_t (List.mem_append_left _ (List.mem_of_getElem? (i := 203) rfl)) rfl
theorem yw_4 : (Cond.methodLink "LayerDesk$Line" 34 xy_JS_length) ∈ wT := wT_t (List.mem_append_left _ (List.mem_of_getElem? (i := 200) rfl)) rfl
theorem yw_5 : (Cond.instanceMethod xy_JS_length) ∈ wT := wT_t (List.mem_append_left _ (List.mem_of_getElem? (i := 201) rfl)) rfl
theorem yw_6 : (Cond.selects "java/lang/String" xy_JS_length xy_JS_length) ∈ wT := wT_t (List.mem_append_left _ (List.mem_of_getElem? (i := 202) rfl)) rfl
theorem yw_7 : (Cond.initialized "java/lang/String") ∈ wT := wT_t (List.mem_append_left _ (List.mem_of_getElem? (i := 6) rfl)) rfl
theorem yw_8 : (Cond.fieldLink "LayerDesk$Line" 9 "LayerDesk$Line" "text" "[C") ∈ wT := wT_t (List.mem_append_left _ (List.mem_of_getElem? (i := 36) rfl)) rfl
theorem yw_9 : (Cond.code xy_JS_charAt xb_JS_charAt 2 (some .char)) ∈ wT := wT_t (List.mem_append_left _ (List.mem_of_getElem? (i := 213) rfl)) rfl
theorem yw_10 : (Cond.methodLink "LayerDesk$Line" 39 xy_JS_charAt) ∈ wT := wT_t (List.mem_append_left _ (List.mem_of_getElem? (i := 210) rfl)) rfl
theorem yw_11 : (Cond.instanceMethod xy_JS_charAt) ∈ wT := wT_t (List.mem_append_left _ (List.mem_of_getElem? (i := 211) rfl)) rfl
theorem yw_12 : (Cond.selects "java/lang/String" xy_JS_charAt xy_JS_charAt) ∈ wT := wT_t (List.mem_append_left _ (List.mem_of_getElem? (i := 212) rfl)) rfl
theorem yw_13 : (Cond.code xy_Li_wordIs xb_Li_wordIs 4 (some .boolean)) ∈ wT := wT_t (List.mem_append_left _ (List.mem_of_getElem? (i := 199) rfl)) rfl
theorem yw_14 : (Cond.methodLink "LayerDesk$Shelf" 34 xy_Li_wordIs) ∈ wT := wT_t (List.mem_append_left _ (List.mem_of_getElem? (i := 196) rfl)) rfl
theorem yw_15 : (Cond.instanceMethod xy_Li_wordIs) ∈ wT := wT_t (List.mem_append_left _ (List.mem_of_getElem? (i := 197) rfl)) rfl
theorem yw_16 : (Cond.selects "LayerDesk$Line" xy_Li_wordIs xy_Li_wordIs) ∈ wT := wT_t (List.mem_append_left _ (List.mem_of_getElem? (i := 198) rfl)) rfl
theorem yw_17 : (Cond.initialized "LayerDesk$Line") ∈ wT := wT_t (List.mem_append_left _ (List.mem_of_getElem? (i := 2) rfl)) rfl
theorem yw_18 : (Cond.code xy_Li_nameAt xb_Li_nameAt 4 (some .int)) ∈ wT := wT_t (List.mem_append_right _ (List.mem_append_left _ (List.mem_of_getElem? (i := 17) rfl))) rfl
theorem yw_19 : (Cond.methodLink "LayerDesk$Shelf" 70 xy_Li_nameAt) ∈ wT := wT_t (List.mem_append_right _ (List.mem_append_left _ (List.mem_of_getElem? (i := 14) rfl))) rfl
theorem yw_20 : (Cond.instanceMethod xy_Li_nameAt) ∈ wT := wT_t (List.mem_append_right _ (List.mem_append_left _ (List.mem_of_getElem? (i := 15) rfl))) rfl
theorem yw_21 : (Cond.selects "LayerDesk$Line" xy_Li_nameAt xy_Li_nameAt) ∈ wT := wT_t (List.mem_append_right _ (List.mem_append_left _ (List.mem_of_getElem? (i := 16) rfl))) rfl
theorem yw_22 : (Cond.fieldLink "LayerDesk$Shelf" 27 "LayerDesk$Line" "words" "I") ∈ wT := wT_t (List.mem_append_left _ (List.mem_of_getElem? (i := 41) rfl)) rfl
theorem yw_23 : (Cond.code xy_Sh_find xb_Sh_find 4 (some (.object "LayerDesk$Descriptor"))) ∈ wT := wT_t (List.mem_append_right _ (List.mem_append_left _ (List.mem_of_getElem? (i := 21) rfl))) rfl
theorem yw_24 : (Cond.methodLink "LayerDesk$Shelf" 74 xy_Sh_find) ∈ wT := wT_t (List.mem_append_right _ (List.mem_append_left _ (List.mem_of_getElem? (i := 18) rfl))) rfl
theorem yw_25 : (Cond.instanceMethod xy_Sh_find) ∈ wT := wT_t (List.mem_append_right _ (List.mem_append_left _ (List.mem_of_getElem? (i := 19) rfl))) rfl
theorem yw_26 : (Cond.selects "LayerDesk$Shelf" xy_Sh_find xy_Sh_find) ∈ wT := wT_t (List.mem_append_right _ (List.mem_append_left _ (List.mem_of_getElem? (i := 20) rfl))) rfl
theorem yw_27 : (Cond.initialized "LayerDesk$Shelf") ∈ wT := wT_t (List.mem_append_left _ (List.mem_of_getElem? (i := 3) rfl)) rfl
theorem yw_28 : (Cond.fieldLink "LayerDesk$Shelf" 17 "LayerDesk$Shelf" "size" "I") ∈ wT := wT_t (List.mem_append_left _ (List.mem_of_getElem? (i := 66) rfl)) rfl
theorem yw_29 : (Cond.fieldLink "LayerDesk$Shelf" 11 "LayerDesk$Shelf" "descriptors" "[LLayerDesk$Descriptor;") ∈ wT := wT_t (List.mem_append_left _ (List.mem_of_getElem? (i := 64) rfl)) rfl
theorem yw_30 : (Cond.classLink "LayerDesk$Shelf" 9 "LayerDesk$Descriptor") ∈ wT := wT_t (List.mem_append_left _ (List.mem_of_getElem? (i := 62) rfl)) rfl
theorem yw_31 : (Cond.instantiable "LayerDesk$Descriptor" 12) ∈ wT := wT_t (List.mem_append_right _ (List.mem_append_left _ (List.mem_of_getElem? (i := 22) rfl))) rfl
theorem yw_32 : (Cond.initialized "LayerDesk$Descriptor") ∈ wT := wT_t (List.mem_append_left _ (List.mem_of_getElem? (i := 10) rfl)) rfl
theorem yw_33 : (Cond.code xy_Ds_init xb_Ds_init 4 none) ∈ wT := wT_t (List.mem_append_right _ (List.mem_append_left _ (List.mem_of_getElem? (i := 25) rfl))) rfl
theorem yw_34 : (Cond.methodLink "LayerDesk$Shelf" 78 xy_Ds_init) ∈ wT := wT_t (List.mem_append_right _ (List.mem_append_left _ (List.mem_of_getElem? (i := 23) rfl))) rfl
theorem yw_35 : (Cond.instanceMethod xy_Ds_init) ∈ wT := wT_t (List.mem_append_right _ (List.mem_append_left _ (List.mem_of_getElem? (i := 24) rfl))) rfl
theorem yw_36 : (Cond.code xy_Sh_latest xb_Sh_latest 1 (some (.object "LayerDesk$Descriptor"))) ∈ wT := wT_t (List.mem_append_right _ (List.mem_append_left _ (List.mem_of_getElem? (i := 119) rfl))) rfl
theorem yw_37 : (Cond.methodLink "LayerDesk$Shelf" 81 xy_Sh_latest) ∈ wT := wT_t (List.mem_append_right _ (List.mem_append_left _ (List.mem_of_getElem? (i := 116) rfl))) rfl
theorem yw_38 : (Cond.instanceMethod xy_Sh_latest) ∈ wT := wT_t (List.mem_append_right _ (List.mem_append_left _ (List.mem_of_getElem? (i := 118) rfl))) rfl
theorem yw_39 : (Cond.selects "LayerDesk$Shelf" xy_Sh_latest xy_Sh_latest) ∈ wT := wT_s (q := (xy_Sh_latest, 2)) (by decide +kernel) rfl
theorem yw_40 : (Cond.fieldLink "LayerDesk$Shelf" 85 "LayerDesk$Descriptor" "packages" "LLayerDesk$Names;") ∈ wT := wT_t (List.mem_append_right _ (List.mem_append_left _ (List.mem_of_getElem? (i := 62) rfl))) rfl
theorem yw_41 : (Cond.code xy_Na_holds xb_Na_holds 2 (some .boolean)) ∈ wT := wT_t (List.mem_append_right _ (List.mem_append_left _ (List.mem_of_getElem? (i := 123) rfl))) rfl
theorem yw_42 : (Cond.methodLink "LayerDesk$Shelf" 89 xy_Na_holds) ∈ wT := wT_t (List.mem_append_right _ (List.mem_append_left _ (List.mem_of_getElem? (i := 120) rfl))) rfl
theorem yw_43 : (Cond.instanceMethod xy_Na_holds) ∈ wT := wT_t (List.mem_append_right _ (List.mem_append_left _ (List.mem_of_getElem? (i := 121) rfl))) rfl
theorem yw_44 : (Cond.selects "LayerDesk$Names" xy_Na_holds xy_Na_holds) ∈ wT := wT_t (List.mem_append_right _ (List.mem_append_left _ (List.mem_of_getElem? (i := 122) rfl))) rfl
theorem yw_45 : (Cond.initialized "LayerDesk$Names") ∈ wT := wT_t (List.mem_append_left _ (List.mem_of_getElem? (i := 11) rfl)) rfl
theorem yw_46 : (Cond.fieldLink "LayerDesk$Shelf" 95 "LayerDesk$Descriptor" "settled" "Z") ∈ wT := wT_t (List.mem_append_right _ (List.mem_append_left _ (List.mem_of_getElem? (i := 83) rfl))) rfl
theorem yw_47 : (Cond.code xy_Na_isFull xb_Na_isFull 1 (some .boolean)) ∈ wT := wT_t (List.mem_append_right _ (List.mem_append_left _ (List.mem_of_getElem? (i := 131) rfl))) rfl
theorem yw_48 : (Cond.methodLink "LayerDesk$Shelf" 99 xy_Na_isFull) ∈ wT := wT_t (List.mem_append_right _ (List.mem_append_left _ (List.mem_of_getElem? (i := 128) rfl))) rfl
theorem yw_49 : (Cond.instanceMethod xy_Na_isFull) ∈ wT := wT_t (List.mem_append_right _ (List.mem_append_left _ (List.mem_of_getElem? (i := 129) rfl))) rfl
theorem yw_50 : (Cond.selects "LayerDesk$Names" xy_Na_isFull xy_Na_isFull) ∈ wT := wT_t (List.mem_append_right _ (List.mem_append_left _ (List.mem_of_getElem? (i := 130) rfl))) rfl
theorem yw_51 : (Cond.code xy_Ds_addPackage xb_Ds_addPackage 2 none) ∈ wT := wT_t (List.mem_append_right _ (List.mem_append_left _ (List.mem_of_getElem? (i := 135) rfl))) rfl
theorem yw_52 : (Cond.methodLink "LayerDesk$Shelf" 103 xy_Ds_addPackage) ∈ wT := wT_t (List.mem_append_right _ (List.mem_append_left _ (List.mem_of_getElem? (i := 132) rfl))) rfl
theorem yw_53 : (Cond.instanceMethod xy_Ds_addPackage) ∈ wT := wT_t (List.mem_append_right _ (List.mem_append_left _ (List.mem_of_getElem? (i := 133) rfl))) rfl
theorem yw_54 : (Cond.selects "LayerDesk$Descriptor" xy_Ds_addPackage xy_Ds_addPackage) ∈ wT := wT_t (List.mem_append_right _ (List.mem_append_left _ (List.mem_of_getElem? (i := 134) rfl))) rfl
theorem yw_55 : (Cond.code xy_Ds_openingOf xb_Ds_openingOf 3 (some (.object "LayerDesk$Grant"))) ∈ wT := wT_t (List.mem_append_right _ (List.mem_append_left _ (List.mem_of_getElem? (i := 171) rfl))) rfl
theorem yw_56 : (Cond.methodLink "LayerDesk$Shelf" 115 xy_Ds_openingOf) ∈ wT := wT_t (List.mem_append_right _ (List.mem_append_left _ (List.mem_of_getElem? (i := 168) rfl))) rfl
theorem yw_57 : (Cond.instanceMethod xy_Ds_openingOf) ∈ wT := wT_t (List.mem_append_right _ (List.mem_append_left _ (List.mem_of_getElem? (i := 169) rfl))) rfl
theorem yw_58 : (Cond.selects "LayerDesk$Descriptor" xy_Ds_openingOf xy_Ds_openingOf) ∈ wT := wT_t (List.mem_append_right _ (List.mem_append_left _ (List.mem_of_getElem? (i := 170) rfl))) rfl
theorem yw_59 : (Cond.code xy_Gr_hasRoomFor xb_Gr_hasRoomFor 2 (some .boolean)) ∈ wT := wT_t (List.mem_append_right _ (List.mem_append_left _ (List.mem_of_getElem? (i := 175) rfl))) rfl
theorem yw_60 : (Cond.methodLink "LayerDesk$Shelf" 118 xy_Gr_hasRoomFor) ∈ wT := wT_t (List.mem_append_right _ (List.mem_append_left _ (List.mem_of_getElem? (i := 172) rfl))) rfl
theorem yw_61 : (Cond.instanceMethod xy_Gr_hasRoomFor) ∈ wT := wT_t (List.mem_append_right _ (List.mem_append_left _ (List.mem_of_getElem? (i := 173) rfl))) rfl
theorem yw_62 : (Cond.selects "LayerDesk$Grant" xy_Gr_hasRoomFor xy_Gr_hasRoomFor) ∈ wT := wT_t (List.mem_append_right _ (List.mem_append_left _ (List.mem_of_getElem? (i := 174) rfl))) rfl
theorem yw_63 : (Cond.initialized "LayerDesk$Grant") ∈ wT := wT_t (List.mem_append_left _ (List.mem_of_getElem? (i := 12) rfl)) rfl
theorem yw_64 : (Cond.code xy_Gr_extendTo xb_Gr_extendTo 2 none) ∈ wT := wT_t (List.mem_append_right _ (List.mem_append_left _ (List.mem_of_getElem? (i := 185) rfl))) rfl
theorem yw_65 : (Cond.methodLink "LayerDesk$Shelf" 121 xy_Gr_extendTo) ∈ wT := wT_t (List.mem_append_right _ (List.mem_append_left _ (List.mem_of_getElem? (i := 182) rfl))) rfl
theorem yw_66 : (Cond.instanceMethod xy_Gr_extendTo) ∈ wT := wT_t (List.mem_append_right _ (List.mem_append_left _ (List.mem_of_getElem? (i := 183) rfl))) rfl
theorem yw_67 : (Cond.selects "LayerDesk$Grant" xy_Gr_extendTo xy_Gr_extendTo) ∈ wT := wT_t (List.mem_append_right _ (List.mem_append_left _ (List.mem_of_getElem? (i := 184) rfl))) rfl
theorem yw_68 : (Cond.code xy_Ds_exportOf xb_Ds_exportOf 3 (some (.object "LayerDesk$Grant"))) ∈ wT := wT_t (List.mem_append_right _ (List.mem_append_left _ (List.mem_of_getElem? (i := 166) rfl))) rfl
theorem yw_69 : (Cond.methodLink "LayerDesk$Shelf" 111 xy_Ds_exportOf) ∈ wT := wT_t (List.mem_append_right _ (List.mem_append_left _ (List.mem_of_getElem? (i := 163) rfl))) rfl
theorem yw_70 : (Cond.instanceMethod xy_Ds_exportOf) ∈ wT := wT_t (List.mem_append_right _ (List.mem_append_left _ (List.mem_of_getElem? (i := 164) rfl))) rfl
theorem yw_71 : (Cond.selects "LayerDesk$Descriptor" xy_Ds_exportOf xy_Ds_exportOf) ∈ wT := wT_t (List.mem_append_right _ (List.mem_append_left _ (List.mem_of_getElem? (i := 165) rfl))) rfl
theorem yw_72 : (Cond.fieldLink "LayerDesk$Shelf" 24 "LayerDesk$Descriptor" "name" "I") ∈ wT := wT_t (List.mem_append_right _ (List.mem_append_left _ (List.mem_of_getElem? (i := 56) rfl))) rfl
theorem yw_73 : (Cond.fieldLink "LayerDesk$Shelf" 128 "LayerDesk$Descriptor" "required" "LLayerDesk$Names;") ∈ wT := wT_t (List.mem_append_right _ (List.mem_append_left _ (List.mem_of_getElem? (i := 69) rfl))) rfl
theorem yw_74 : (Cond.code xy_Ds_addRequired xb_Ds_addRequired 4 none) ∈ wT := wT_t (List.mem_append_right _ (List.mem_append_left _ (List.mem_of_getElem? (i := 197) rfl))) rfl
theorem yw_75 : (Cond.methodLink "LayerDesk$Shelf" 131 xy_Ds_addRequired) ∈ wT := wT_t (List.mem_append_right _ (List.mem_append_left _ (List.mem_of_getElem? (i := 194) rfl))) rfl
theorem yw_76 : (Cond.instanceMethod xy_Ds_addRequired) ∈ wT := wT_t (List.mem_append_right _ (List.mem_append_left _ (List.mem_of_getElem? (i := 195) rfl))) rfl
theorem yw_77 : (Cond.selects "LayerDesk$Descriptor" xy_Ds_addRequired xy_Ds_addRequired) ∈ wT := wT_t (List.mem_append_right _ (List.mem_append_left _ (List.mem_of_getElem? (i := 196) rfl))) rfl
theorem yw_78 : (Cond.fieldLink "LayerDesk$Shelf" 138 "LayerDesk$Descriptor" "provided" "LLayerDesk$Names;") ∈ wT := wT_t (List.mem_append_right _ (List.mem_append_left _ (List.mem_of_getElem? (i := 81) rfl))) rfl
theorem yw_79 : (Cond.code xy_Na_append xb_Na_append 2 none) ∈ wT := wT_t (List.mem_append_right _ (List.mem_append_left _ (List.mem_of_getElem? (i := 154) rfl))) rfl
theorem yw_80 : (Cond.methodLink "LayerDesk$Shelf" 141 xy_Na_append) ∈ wT := wT_t (List.mem_append_right _ (List.mem_append_left _ (List.mem_of_getElem? (i := 204) rfl))) rfl
theorem yw_81 : (Cond.instanceMethod xy_Na_append) ∈ wT := wT_t (List.mem_append_right _ (List.mem_append_left _ (List.mem_of_getElem? (i := 152) rfl))) rfl
theorem yw_82 : (Cond.selects "LayerDesk$Names" xy_Na_append xy_Na_append) ∈ wT := wT_t (List.mem_append_right _ (List.mem_append_left _ (List.mem_of_getElem? (i := 153) rfl))) rfl
theorem yw_83 : (Cond.fieldLink "LayerDesk$Shelf" 135 "LayerDesk$Descriptor" "used" "LLayerDesk$Names;") ∈ wT := wT_t (List.mem_append_right _ (List.mem_append_left _ (List.mem_of_getElem? (i := 77) rfl))) rfl
theorem yw_84 : (Cond.code xy_Sh_acceptService xb_Sh_acceptService 5 (some .int)) ∈ wT := wT_t (List.mem_append_right _ (List.mem_append_left _ (List.mem_of_getElem? (i := 203) rfl))) rfl
theorem yw_85 : (Cond.methodLink "LayerDesk$Shelf" 63 xy_Sh_acceptService) ∈ wT := wT_t (List.mem_append_right _ (List.mem_append_left _ (List.mem_of_getElem? (i := 200) rfl))) rfl
theorem yw_86 : (Cond.instanceMethod xy_Sh_acceptService) ∈ wT := wT_t (List.mem_append_right _ (List.mem_append_left _ (List.mem_of_getElem? (i := 202) rfl))) rfl
theorem yw_87 : (Cond.selects "LayerDesk$Shelf" xy_Sh_acceptService xy_Sh_acceptService) ∈ wT := wT_s (q := (xy_Sh_acceptService, 2)) (by decide +kernel) rfl
theorem yw_88 : (Cond.code xy_Sh_acceptRequired xb_Sh_acceptRequired 7 (some .int)) ∈ wT := wT_t (List.mem_append_right _ (List.mem_append_left _ (List.mem_of_getElem? (i := 191) rfl))) rfl
theorem yw_89 : (Cond.methodLink "LayerDesk$Shelf" 56 xy_Sh_acceptRequired) ∈ wT := wT_t (List.mem_append_right _ (List.mem_append_left _ (List.mem_of_getElem? (i := 188) rfl))) rfl
theorem yw_90 : (Cond.instanceMethod xy_Sh_acceptRequired) ∈ wT := wT_t (List.mem_append_right _ (List.mem_append_left _ (List.mem_of_getElem? (i := 190) rfl))) rfl
theorem yw_91 : (Cond.selects "LayerDesk$Shelf" xy_Sh_acceptRequired xy_Sh_acceptRequired) ∈ wT := wT_s (q := (xy_Sh_acceptRequired, 2)) (by decide +kernel) rfl
theorem yw_92 : (Cond.code xy_Sh_acceptGrant xb_Sh_acceptGrant 7 (some .int)) ∈ wT := wT_t (List.mem_append_right _ (List.mem_append_left _ (List.mem_of_getElem? (i := 161) rfl))) rfl
theorem yw_93 : (Cond.methodLink "LayerDesk$Shelf" 51 xy_Sh_acceptGrant) ∈ wT := wT_t (List.mem_append_right _ (List.mem_append_left _ (List.mem_of_getElem? (i := 158) rfl))) rfl
theorem yw_94 : (Cond.instanceMethod xy_Sh_acceptGrant) ∈ wT := wT_t (List.mem_append_right _ (List.mem_append_left _ (List.mem_of_getElem? (i := 160) rfl))) rfl
theorem yw_95 : (Cond.selects "LayerDesk$Shelf" xy_Sh_acceptGrant xy_Sh_acceptGrant) ∈ wT := wT_s (q := (xy_Sh_acceptGrant, 2)) (by decide +kernel) rfl
theorem yw_96 : (Cond.code xy_Sh_acceptPackage xb_Sh_acceptPackage 4 (some .int)) ∈ wT := wT_t (List.mem_append_right _ (List.mem_append_left _ (List.mem_of_getElem? (i := 115) rfl))) rfl
theorem yw_97 : (Cond.methodLink "LayerDesk$Shelf" 44 xy_Sh_acceptPackage) ∈ wT := wT_t (List.mem_append_right _ (List.mem_append_left _ (List.mem_of_getElem? (i := 112) rfl))) rfl
theorem yw_98 : (Cond.instanceMethod xy_Sh_acceptPackage) ∈ wT := wT_t (List.mem_append_right _ (List.mem_append_left _ (List.mem_of_getElem? (i := 114) rfl))) rfl
theorem yw_99 : (Cond.selects "LayerDesk$Shelf" xy_Sh_acceptPackage xy_Sh_acceptPackage) ∈ wT := wT_s (q := (xy_Sh_acceptPackage, 2)) (by decide +kernel) rfl
theorem yw_100 : (Cond.code xy_Sh_acceptDescriptor xb_Sh_acceptDescriptor 5 (some .int)) ∈ wT := wT_t (List.mem_append_right _ (List.mem_append_left _ (List.mem_of_getElem? (i := 11) rfl))) rfl
theorem yw_101 : (Cond.methodLink "LayerDesk$Shelf" 38 xy_Sh_acceptDescriptor) ∈ wT := wT_t (List.mem_append_right _ (List.mem_append_left _ (List.mem_of_getElem? (i := 8) rfl))) rfl
theorem yw_102 : (Cond.instanceMethod xy_Sh_acceptDescriptor) ∈ wT := wT_t (List.mem_append_right _ (List.mem_append_left _ (List.mem_of_getElem? (i := 10) rfl))) rfl
theorem yw_103 : (Cond.selects "LayerDesk$Shelf" xy_Sh_acceptDescriptor xy_Sh_acceptDescriptor) ∈ wT := wT_s (q := (xy_Sh_acceptDescriptor, 2)) (by decide +kernel) rfl
set_option maxHeartbeats 4000000 in
set_option maxRecDepth 100000 in
theorem xc_Li_wordIs (l : Launch) (D : va_G) (kA : Nat → ClassId) (sz : Nat) (ad : Nat → Nat → Nat) (E : Nat → Nat → va_E) (RL : List (Nat × Nat)) (Z : zT) (ml : Nat) (nd : Nat) (len : Nat) (wn : Nat) (cs : Nat) (ix : Int32) (si : Nat) (hCI : CI kA ad E RL ml nd len wn cs) (hsi : si < 12) : Met l xy_Li_wordIs (.code xy_Li_wordIs xb_Li_wordIs 4 (some .boolean) :: wT) { frames := 4, cells := 0, slots := 0, locals := 85 } (va_Pc [.ref (ad 0 1), .int ix, .ref (Z.1 si)] (xPreZ D kA sz (rp ad E RL) Z)) (va_Qi (fun (r : Int32) (u : Unit) => r = 0 ∨ r = 1) (fun (u : Unit) t => va_P D xcl (rp ad E RL) t.heap ∧ va_D (va_A (rp ad E RL) sz) (rp ad E RL)) (va_A (rp ad E RL) sz)) 0 0 (va_A (rp ad E RL) sz) := by
  refine Met.ofW (cc := xb_Li_wordIs) (maxL := 4) (ret := (some .boolean)) (by decide) rfl ?_
  intro p e s m args below meth c s₁ B hml hv
  obtain ⟨rfl, ⟨hsz, hP, hK, hD0⟩, hZ⟩ := hv
  have hx := B.exec
  have hb := B.bytes
  have hr := B.returns
  have hT := x_hT B.pre
  have hown : s.vm.findClass xR_Li = some m.cls := findClass_of_methodNamed B.named
  have hlocks := B.notSynchronized
  subst hsz
  have hD := hD0.self (sz := s.heap.size)
  generalize hAe : va_A (rp ad E RL) s.heap.size = A at hD hZ ⊢
  have hA : ∀ q : Nat, s.heap.size ≤ q → A q := fun q h => by rw [← hAe]; exact Or.inr h
  have hS : va_S A s.heap s.heap [] := va_S.rf
  have hl := lv_entry ([.ref (ad 0 1), .int ix, .ref (Z.1 si)]) (n := 4) (Nat.le_of_ble_eq_true rfl)
  rw [lg_entry_eq]
  generalize (lg_sl ([.ref (ad 0 1), .int ix, .ref (Z.1 si)]) ++ List.replicate (4 - (lg_sl ([.ref (ad 0 1), .int ix, .ref (Z.1 si)])).length) Slot.unset).toArray = ls at hl ⊢
  have hl : lv_has ls 4 [(0, .ref (ad 0 1)), (1, .int ix), (2, .ref (Z.1 si))] := hl
  have hP : va_P D xcl (rp ad E RL) s.heap := hP
  obtain ⟨hmB, hDk, hLi, hSh, hCh, hLa, hDIs, hLIs⟩ := id hCI
  obtain ⟨tx_1, fb_1, fe_1, hl1_1, hw2_1, q1_1, q2_1, q3_1, q4_1, hws_1⟩ := id (hLi)
  have c_2 : E 0 1 = .inr (1, [.ref (ad 0 2), .ref (ad 0 3), .ref (ad 0 4), .int (nI len), .int (nI wn)]) := q1_1
  have m_3 : (0, 1) ∈ RL := hmB 1 (by omega)
  have c_4 : E 0 2 = .inl (kA 1, 40, .inl tx_1) := q2_1
  have m_5 : (0, 2) ∈ RL := hmB 2 (by omega)
  have c_6 : E 0 3 = .inl (kA 0, 20, .inl fb_1) := q3_1
  have m_7 : (0, 3) ∈ RL := hmB 3 (by omega)
  have c_8 : E 0 4 = .inl (kA 0, 20, .inl fe_1) := q4_1
  have m_9 : (0, 4) ∈ RL := hmB 4 (by omega)
  have hz9 := z_len si hsi
  refine lv_iload_n hx hb xd_Li_wordIs_0 rfl (lv_at hl 1 rfl) ?_
  refine lv_if_lt (tgt := 32) hx hb xd_Li_wordIs_1 (by decide) (fun hc10 => ?_) (fun hc10 => ?_)
  · refine lv_iconst (v := 0) hx hb xd_Li_wordIs_32 (by decide) ?_
    exact W.zret (v := 0) hx hb hr rfl (fun t ht hW => ⟨⟨0, (), rfl, Or.inl rfl, by rw [ht]; exact hP, hD⟩, hS.F ht⟩) hS.2.2 xd_Li_wordIs_33
  · obtain ⟨iw, hiw31, hiw⟩ := nI_of hc10
    rw [xb_31] at hiw31
    rw [hiw] at hl
    refine lv_iload_n hx hb xd_Li_wordIs_4 rfl (lv_at hl 1 rfl) ?_
    refine lv_aload_n hx hb xd_Li_wordIs_5 rfl (lv_at hl 0 rfl) ?_
    refine px_get (D := D) (ci := 1) (v := .int (nI wn)) (C := xR_Li) (T := xT_Li) (N := 5) hx hb hT xi_Li hown hK.1 hP m_3 c_2 rfl 4 (by decide) (hT _ yw_0) (fun _ h9 => h9) rfl xd_Li_wordIs_6 ?_
    refine xn_ge (a := iw) (b := wn) (tgt := 32) hx hb xd_Li_wordIs_9 (by decide) (by omega) (by omega) (fun hc11 => ?_) (fun hc11 => ?_)
    · refine lv_iconst (v := 0) hx hb xd_Li_wordIs_32 (by decide) ?_
      exact W.zret (v := 0) hx hb hr rfl (fun t ht hW => ⟨⟨0, (), rfl, Or.inl rfl, by rw [ht]; exact hP, hD⟩, hS.F ht⟩) hS.2.2 xd_Li_wordIs_33
    · obtain ⟨b9, e9, hbe9, he940, hfb9, hfe9⟩ := hws_1 iw (by omega)
      refine lv_aload_n hx hb xd_Li_wordIs_12 rfl (lv_at hl 0 rfl) ?_
      refine px_get (D := D) (ci := 1) (v := .ref (ad 0 4)) (C := xR_Li) (T := xT_Li) (N := 5) hx hb hT xi_Li hown hK.1 hP m_3 c_2 rfl 2 (by decide) (hT _ yw_1) (fun _ h9 => h9) rfl xd_Li_wordIs_13 ?_
      refine lv_iload_n hx hb xd_Li_wordIs_16 rfl (lv_at hl 1 rfl) ?_
      refine px_iald (i := iw) hx hb hK.1 hP m_9 c_8 0 rfl (by omega) (by decide) xd_Li_wordIs_17 ?_
      refine xn_top (x := (fe_1 iw)) (y := nI e9) hfe9 ?_
      refine lv_aload_n hx hb xd_Li_wordIs_18 rfl (lv_at hl 0 rfl) ?_
      refine px_get (D := D) (ci := 1) (v := .ref (ad 0 3)) (C := xR_Li) (T := xT_Li) (N := 5) hx hb hT xi_Li hown hK.1 hP m_3 c_2 rfl 1 (by decide) (hT _ yw_2) (fun _ h9 => h9) rfl xd_Li_wordIs_19 ?_
      refine lv_iload_n hx hb xd_Li_wordIs_22 rfl (lv_at hl 1 rfl) ?_
      refine px_iald (i := iw) hx hb hK.1 hP m_7 c_6 0 rfl (by omega) (by decide) xd_Li_wordIs_23 ?_
      refine xn_top (x := (fb_1 iw)) (y := nI b9) hfb9 ?_
      refine lv_isub hx hb xd_Li_wordIs_24 ?_
      refine xn_top (y := nI (e9 - b9)) (pk_sub (a := e9) (b := b9) (by omega)) ?_
      refine lv_aload_n hx hb xd_Li_wordIs_25 rfl (lv_at hl 2 rfl) ?_
      have hFc := px_free hD hS hA
      refine va_calli (va_runV (As := []) (rest := [.int (nI (e9 - b9))]) ⟨hx, hb, hml, hown, hT⟩ (xc_JS_length l D kA s.heap.size ad E RL Z si (by first | assumption | omega)) (cwV 0 hT (wT_V yw_4 yw_5 yw_6 yw_7 yw_3) rfl rfl rfl (by decide +kernel) ⟨Nat.le_of_ble_eq_true rfl, Nat.le_of_ble_eq_true rfl⟩) (x_preTZ (vk_recv hZ.2.1 hsi hS) hK hP hD hFc (hZ.kept hS)) rfl rfl hl.1 rfl (lv_room (Nat.le_of_ble_eq_true rfl)) xd_Li_wordIs_26 ⟨(Nat.le_of_ble_eq_true rfl), (Nat.le_of_ble_eq_true rfl)⟩) hS (fun q _ h => hFc q h) hFc (fun r12 u13 t H1 locs ht hvm hp14 hB hz1 hk1 hS => ?_)
      obtain ⟨hP1, hD1⟩ := hB
      rw [ht] at hP1
      have hD1 := hD1.weaken (fun _ _ _ h => hFc _ h)
      generalize H1 = H at hP1 hS ⊢
      have hP := hP1
      have hD := hD1
      have hP : va_P D xcl (rp ad E RL) H := hP
      have hD : va_D A (rp ad E RL) := hD
      rcases hp14 with rfl
      · refine W.eq (g2 := F0 m 29 ls [.int (nI ((zL.getD si 0))), .int (nI (e9 - b9))]) rfl ?_
        refine xn_eq (a := e9 - b9) (b := (zL.getD si 0)) (tgt := 34) hx hb xd_Li_wordIs_29 (by decide) (by omega) (by omega) (fun hc15 => ?_) (fun hc15 => ?_)
        · refine lv_iconst (v := 0) hx hb xd_Li_wordIs_34 (by decide) ?_
          refine lv_istore_n hx hb xd_Li_wordIs_35 rfl hl (Nat.le_of_ble_eq_true rfl) rfl (fun ls hl => ?_)
          have hl : lv_has ls 4 [(3, .int 0), (0, .ref (ad 0 1)), (1, .int (nI iw)), (2, .ref (Z.1 si))] := hl
          refine xlab (σ := Nat) (ml := 4) 36 (fun (pp9 : Nat) => [(3, .int (nI pp9)), (2, .ref (Z.1 si)), (0, .ref (ad 0 1)), (1, .int (nI iw))]) (fun (pp9 : Nat) => []) (fun (pp9 : Nat) => rp ad E RL) (fun (pp9 : Nat) => (pp9 ≤ zL.getD si 0)) (fun (pp9 : Nat) => zL.getD si 0 - pp9) ?_ 0 _ _ _ (lv_sub hl [0, 3, 1, 2] rfl) hP hD hS (show 0 ≤ zL.getD si 0 from by first | assumption | omega)
          intro n9 ih16 a9 ls H locs hμ hl hP hD hS hI
          subst hμ
          obtain ⟨pp9, rfl⟩ : ∃ z, z = a9 := ⟨_, rfl⟩
          have hp1 : pp9 ≤ zL.getD si 0 := hI
          have hl : lv_has ls 4 [(3, .int (nI pp9)), (2, .ref (Z.1 si)), (0, .ref (ad 0 1)), (1, .int (nI iw))] := hl
          have hP : va_P D xcl (rp ad E RL) H := hP
          have hD : va_D A (rp ad E RL) := hD
          refine lv_iload_n hx hb xd_Li_wordIs_36 rfl (lv_at hl 0 rfl) ?_
          refine lv_aload_n hx hb xd_Li_wordIs_37 rfl (lv_at hl 1 rfl) ?_
          have hFc := px_free hD hS hA
          refine va_calli (va_runV (As := []) (rest := [.int (nI pp9)]) ⟨hx, hb, hml, hown, hT⟩ (xc_JS_length l D kA H.size ad E RL Z si (by first | assumption | omega)) (cwV 0 hT (wT_V yw_4 yw_5 yw_6 yw_7 yw_3) rfl rfl rfl (by decide +kernel) ⟨Nat.le_of_ble_eq_true rfl, Nat.le_of_ble_eq_true rfl⟩) (x_preTZ (vk_recv hZ.2.1 hsi hS) hK hP hD hFc (hZ.kept hS)) rfl rfl hl.1 rfl (lv_room (Nat.le_of_ble_eq_true rfl)) xd_Li_wordIs_38 ⟨(Nat.le_of_ble_eq_true rfl), (Nat.le_of_ble_eq_true rfl)⟩) hS (fun q _ h => hFc q h) hFc (fun r17 u18 t H1 locs ht hvm hp19 hB hz1 hk1 hS => ?_)
          obtain ⟨hP1, hD1⟩ := hB
          rw [ht] at hP1
          have hD1 := hD1.weaken (fun _ _ _ h => hFc _ h)
          generalize H1 = H at hP1 hS ⊢
          have hP := hP1
          have hD := hD1
          have hP : va_P D xcl (rp ad E RL) H := hP
          have hD : va_D A (rp ad E RL) := hD
          rcases hp19 with rfl
          · refine W.eq (g2 := F0 m 41 ls [.int (nI ((zL.getD si 0))), .int (nI pp9)]) rfl ?_
            refine xn_ge (a := pp9) (b := (zL.getD si 0)) (tgt := 73) hx hb xd_Li_wordIs_41 (by decide) (by omega) (by omega) (fun hc20 => ?_) (fun hc20 => ?_)
            · refine lv_iconst (v := 1) hx hb xd_Li_wordIs_73 (by decide) ?_
              exact W.zret (v := 1) hx hb hr rfl (fun t ht hW => ⟨⟨1, (), rfl, Or.inr rfl, by rw [ht]; exact hP, hD⟩, hS.F ht⟩) hS.2.2 xd_Li_wordIs_74
            · refine lv_aload_n hx hb xd_Li_wordIs_44 rfl (lv_at hl 2 rfl) ?_
              refine px_get (D := D) (ci := 1) (v := .ref (ad 0 2)) (C := xR_Li) (T := xT_Li) (N := 5) hx hb hT xi_Li hown hK.1 hP m_3 c_2 rfl 0 (by decide) (hT _ yw_8) (fun _ h9 => h9) rfl xd_Li_wordIs_45 ?_
              refine lv_aload_n hx hb xd_Li_wordIs_48 rfl (lv_at hl 2 rfl) ?_
              refine px_get (D := D) (ci := 1) (v := .ref (ad 0 3)) (C := xR_Li) (T := xT_Li) (N := 5) hx hb hT xi_Li hown hK.1 hP m_3 c_2 rfl 1 (by decide) (hT _ yw_2) (fun _ h9 => h9) rfl xd_Li_wordIs_49 ?_
              refine lv_iload_n hx hb xd_Li_wordIs_52 rfl (lv_at hl 3 rfl) ?_
              refine px_iald (i := iw) hx hb hK.1 hP m_7 c_6 0 rfl (by omega) (by decide) xd_Li_wordIs_53 ?_
              refine xn_top (x := (fb_1 iw)) (y := nI b9) hfb9 ?_
              refine lv_iload_n hx hb xd_Li_wordIs_54 rfl (lv_at hl 0 rfl) ?_
              refine lv_iadd hx hb xd_Li_wordIs_55 ?_
              refine xn_top (y := nI (b9 + pp9)) (nI_add b9 pp9) ?_
              refine px_cald (i := b9 + pp9) hx hb hK.1 hP m_5 c_4 1 rfl (by omega) (by decide) xd_Li_wordIs_56 ?_
              refine lv_aload_n hx hb xd_Li_wordIs_57 rfl (lv_at hl 1 rfl) ?_
              refine lv_iload_n hx hb xd_Li_wordIs_58 rfl (lv_at hl 0 rfl) ?_
              have hFc := px_free hD hS hA
              refine va_calli (va_runV (As := [.int (nI pp9)]) (rest := [.int (tx_1 (b9 + pp9))]) ⟨hx, hb, hml, hown, hT⟩ (xc_JS_charAt l D kA H.size ad E RL Z si pp9 (by first | assumption | omega) (by first | assumption | omega)) (cwV 1 hT (wT_V yw_10 yw_11 yw_12 yw_7 yw_9) rfl rfl rfl (by decide +kernel) ⟨Nat.le_of_ble_eq_true rfl, Nat.le_of_ble_eq_true rfl⟩) (x_preTZ (vk_recv hZ.2.1 hsi hS) hK hP hD hFc (hZ.kept hS)) rfl rfl hl.1 rfl (lv_room (Nat.le_of_ble_eq_true rfl)) xd_Li_wordIs_59 ⟨(Nat.le_of_ble_eq_true rfl), (Nat.le_of_ble_eq_true rfl)⟩) hS (fun q _ h => hFc q h) hFc (fun r21 u22 t H1 locs ht hvm hp23 hB hz1 hk1 hS => ?_)
              obtain ⟨hP1, hD1⟩ := hB
              rw [ht] at hP1
              have hD1 := hD1.weaken (fun _ _ _ h => hFc _ h)
              generalize H1 = H at hP1 hS ⊢
              have hP := hP1
              have hD := hD1
              have hP : va_P D xcl (rp ad E RL) H := hP
              have hD : va_D A (rp ad E RL) := hD
              refine lv_icmp_eq (tgt := 67) hx hb xd_Li_wordIs_62 (by decide) (fun hc24 => ?_) (fun hc24 => ?_)
              · refine lv_iinc (k := 0) (x := (nI pp9)) (v := (nI (pp9 + 1))) hx hb xd_Li_wordIs_67 hl rfl (xb_inc pp9 1) (Nat.le_of_ble_eq_true rfl) rfl (fun ls hl => ?_)
                have hl : lv_has ls 4 [(3, .int (nI (pp9 + 1))), (2, .ref (Z.1 si)), (0, .ref (ad 0 1)), (1, .int (nI iw))] := hl
                refine lv_goto (tgt := 36) hx hb xd_Li_wordIs_70 (by decide) ?_
                exact ih16 (pp9 + 1) _ _ _ (show zL.getD si 0 - (pp9 + 1) < zL.getD si 0 - pp9 by omega) (lv_sub hl [0, 1, 2, 3] rfl) hP hD hS (show (pp9 + 1) ≤ zL.getD si 0 from by first | assumption | omega)
              · refine lv_iconst (v := 0) hx hb xd_Li_wordIs_65 (by decide) ?_
                exact W.zret (v := 0) hx hb hr rfl (fun t ht hW => ⟨⟨0, (), rfl, Or.inl rfl, by rw [ht]; exact hP, hD⟩, hS.F ht⟩) hS.2.2 xd_Li_wordIs_66
        · refine lv_iconst (v := 0) hx hb xd_Li_wordIs_32 (by decide) ?_
          exact W.zret (v := 0) hx hb hr rfl (fun t ht hW => ⟨⟨0, (), rfl, Or.inl rfl, by rw [ht]; exact hP, hD⟩, hS.F ht⟩) hS.2.2 xd_Li_wordIs_33
set_option maxHeartbeats 4000000 in
set_option maxRecDepth 100000 in
theorem xc_Sh_acceptDescriptor (l : Launch) (D : va_G) (kA : Nat → ClassId) (sz : Nat) (ad : Nat → Nat → Nat) (E : Nat → Nat → va_E) (RL : List (Nat × Nat)) (Z : zT) (ml : Nat) (nd : Nat) (len : Nat) (wn : Nat) (cs : Nat) (hCI : CI kA ad E RL ml nd len wn cs) : Met l xy_Sh_acceptDescriptor (.code xy_Sh_acceptDescriptor xb_Sh_acceptDescriptor 5 (some .int) :: wT) { frames := 5, cells := 13, slots := 66, locals := 108 } (va_Pc [.ref (ad 0 5), .ref (ad 0 1)] (xPreZ D kA sz (rp ad E RL) Z)) (va_Qi (fun (r : Int32) (u : (Nat → Nat → Nat) × (Nat → Nat → va_E) × List (Nat × Nat)) => (∃ nd2, CI kA u.1 u.2.1 u.2.2 ml nd2 len wn cs) ∧ u.1 0 0 = ad 0 0) (fun (u : (Nat → Nat → Nat) × (Nat → Nat → va_E) × List (Nat × Nat)) t => va_P D xcl (rp u.1 u.2.1 u.2.2) t.heap ∧ va_D (va_A (rp ad E RL) sz) (rp u.1 u.2.1 u.2.2)) (va_A (rp ad E RL) sz)) 13 66 (va_A (rp ad E RL) sz) := by
  refine Met.ofW (cc := xb_Sh_acceptDescriptor) (maxL := 5) (ret := (some .int)) (by decide) rfl ?_
  intro p e s m args below meth c s₁ B hml hv
  obtain ⟨rfl, ⟨hsz, hP, hK, hD0⟩, hZ⟩ := hv
  have hx := B.exec
  have hb := B.bytes
  have hr := B.returns
  have hT := x_hT B.pre
  have hown : s.vm.findClass xR_Sh = some m.cls := findClass_of_methodNamed B.named
  have hlocks := B.notSynchronized
  subst hsz
  have hD := hD0.self (sz := s.heap.size)
  generalize hAe : va_A (rp ad E RL) s.heap.size = A at hD hZ ⊢
  have hA : ∀ q : Nat, s.heap.size ≤ q → A q := fun q h => by rw [← hAe]; exact Or.inr h
  have hS : va_S A s.heap s.heap [] := va_S.rf
  have hl := lv_entry ([.ref (ad 0 5), .ref (ad 0 1)]) (n := 5) (Nat.le_of_ble_eq_true rfl)
  rw [lg_entry_eq]
  generalize (lg_sl ([.ref (ad 0 5), .ref (ad 0 1)]) ++ List.replicate (5 - (lg_sl ([.ref (ad 0 5), .ref (ad 0 1)])).length) Slot.unset).toArray = ls at hl ⊢
  have hl : lv_has ls 5 [(0, .ref (ad 0 5)), (1, .ref (ad 0 1))] := hl
  have hP : va_P D xcl (rp ad E RL) s.heap := hP
  obtain ⟨hmB, hDk, hLi, hSh, hCh, hLa, hDIs, hLIs⟩ := id hCI
  obtain ⟨lf_1, q_1⟩ := id (hDk)
  have c_2 : E 0 0 = .inr (0, [.ref (ad 0 1), .ref (ad 0 5), .ref (ad 0 7), .ref (ad 0 9), .int (nI ml), .int lf_1]) := q_1
  have m_3 : (0, 0) ∈ RL := hmB 0 (by omega)
  obtain ⟨tx_4, fb_4, fe_4, hl1_4, hw2_4, q1_4, q2_4, q3_4, q4_4, hws_4⟩ := id (hLi)
  have c_5 : E 0 1 = .inr (1, [.ref (ad 0 2), .ref (ad 0 3), .ref (ad 0 4), .int (nI len), .int (nI wn)]) := q1_4
  have m_6 : (0, 1) ∈ RL := hmB 1 (by omega)
  have c_7 : E 0 2 = .inl (kA 1, 40, .inl tx_4) := q2_4
  have m_8 : (0, 2) ∈ RL := hmB 2 (by omega)
  have c_9 : E 0 3 = .inl (kA 0, 20, .inl fb_4) := q3_4
  have m_10 : (0, 3) ∈ RL := hmB 3 (by omega)
  have c_11 : E 0 4 = .inl (kA 0, 20, .inl fe_4) := q4_4
  have m_12 : (0, 4) ∈ RL := hmB 4 (by omega)
  obtain ⟨fd_13, hnd_13, q5_13, q6_13, hds_13⟩ := id (hSh)
  have c_14 : E 0 5 = .inr (2, [.ref (ad 0 6), .int (nI nd)]) := q5_13
  have m_15 : (0, 5) ∈ RL := hmB 5 (by omega)
  have c_16 : E 0 6 = .inl (kA 4, 12, .inr (.inr (.inr (.inr fd_13)))) := q6_13
  have m_17 : (0, 6) ∈ RL := hmB 6 (by omega)
  obtain ⟨cf_18, pv_18, fc_18, hcs_18, hpv_18, q7_18, q8_18, hfc_18⟩ := id (hCh)
  have c_19 : E 0 7 = .inr (3, [.ref (ad 0 5), .ref (ad 0 8), .int (nI cs), .int cf_18, pv_18]) := q7_18
  have m_20 : (0, 7) ∈ RL := hmB 7 (by omega)
  have c_21 : E 0 8 = .inl (kA 4, 12, .inr (.inr (.inr (.inr fc_18)))) := q8_18
  have m_22 : (0, 8) ∈ RL := hmB 8 (by omega)
  obtain ⟨fl_23, hml_23, q9_23, hla_23⟩ := id (hLa)
  have c_24 : E 0 9 = .inl (kA 5, 5, .inr (.inr (.inr (.inr fl_23)))) := q9_23
  have m_25 : (0, 9) ∈ RL := hmB 9 (by omega)
  refine lv_aload_n hx hb xd_Sh_acceptDescriptor_0 rfl (lv_at hl 1 rfl) ?_
  refine lv_iconst (v := 1) hx hb xd_Sh_acceptDescriptor_1 (by decide) ?_
  refine va_ldcS (q := Z.1 7) hx hb hown hZ.2.2.2.1.2.2.2.2.2.2.2.1 xd_Sh_acceptDescriptor_2 ?_
  have hFc := px_free hD hS hA
  refine va_calli (va_runV (As := [.int 1, .ref (Z.1 7)]) (rest := []) ⟨hx, hb, hml, hown, hT⟩ (xc_Li_wordIs l D kA s.heap.size ad E RL Z ml nd len wn cs 1 7 (by first | assumption | omega) (by first | assumption | omega)) (cwV 2 hT (wT_V yw_14 yw_15 yw_16 yw_17 yw_13) rfl rfl rfl (by decide +kernel) ⟨Nat.le_of_ble_eq_true rfl, Nat.le_of_ble_eq_true rfl⟩) (px_preVZ hK hP hD m_6 c_5 rfl hFc (hZ.kept hS)) rfl rfl hl.1 rfl (lv_room (Nat.le_of_ble_eq_true rfl)) xd_Sh_acceptDescriptor_4 ⟨(Nat.le_of_ble_eq_true rfl), (Nat.le_of_ble_eq_true rfl)⟩) hS (fun q _ h => hFc q h) hFc (fun r26 u27 t H1 locs ht hvm hp28 hB hz1 hk1 hS => ?_)
  obtain ⟨hP1, hD1⟩ := hB
  rw [ht] at hP1
  have hD1 := hD1.weaken (fun _ _ _ h => hFc _ h)
  generalize H1 = H at hP1 hS ⊢
  have hP := hP1
  have hD := hD1
  have hP : va_P D xcl (rp ad E RL) H := hP
  have hD : va_D A (rp ad E RL) := hD
  rcases hp28 with rfl | rfl
  · refine W.eq (g2 := F0 m 7 ls [.int 0]) rfl ?_
    refine lv_if_eq (tgt := 14) hx hb xd_Sh_acceptDescriptor_7 (by decide) (fun _ => ?_) (fun hc29 => absurd (by decide) hc29)
    refine lv_aload_n hx hb xd_Sh_acceptDescriptor_14 rfl (lv_at hl 1 rfl) ?_
    refine lv_iconst (v := 1) hx hb xd_Sh_acceptDescriptor_15 (by decide) ?_
    refine va_ldcS (q := Z.1 8) hx hb hown hZ.2.2.2.1.2.2.2.2.2.2.2.2.1 xd_Sh_acceptDescriptor_16 ?_
    have hFc := px_free hD hS hA
    refine va_calli (va_runV (As := [.int 1, .ref (Z.1 8)]) (rest := []) ⟨hx, hb, hml, hown, hT⟩ (xc_Li_wordIs l D kA H.size ad E RL Z ml nd len wn cs 1 8 (by first | assumption | omega) (by first | assumption | omega)) (cwV 2 hT (wT_V yw_14 yw_15 yw_16 yw_17 yw_13) rfl rfl rfl (by decide +kernel) ⟨Nat.le_of_ble_eq_true rfl, Nat.le_of_ble_eq_true rfl⟩) (px_preVZ hK hP hD m_6 c_5 rfl hFc (hZ.kept hS)) rfl rfl hl.1 rfl (lv_room (Nat.le_of_ble_eq_true rfl)) xd_Sh_acceptDescriptor_18 ⟨(Nat.le_of_ble_eq_true rfl), (Nat.le_of_ble_eq_true rfl)⟩) hS (fun q _ h => hFc q h) hFc (fun r30 u31 t H1 locs ht hvm hp32 hB hz1 hk1 hS => ?_)
    obtain ⟨hP1, hD1⟩ := hB
    rw [ht] at hP1
    have hD1 := hD1.weaken (fun _ _ _ h => hFc _ h)
    generalize H1 = H at hP1 hS ⊢
    have hP := hP1
    have hD := hD1
    have hP : va_P D xcl (rp ad E RL) H := hP
    have hD : va_D A (rp ad E RL) := hD
    rcases hp32 with rfl | rfl
    · refine W.eq (g2 := F0 m 21 ls [.int 0]) rfl ?_
      refine lv_if_eq (tgt := 28) hx hb xd_Sh_acceptDescriptor_21 (by decide) (fun _ => ?_) (fun hc33 => absurd (by decide) hc33)
      refine lv_iconst (v := (-1)) hx hb xd_Sh_acceptDescriptor_28 (by decide) ?_
      refine lv_istore_n hx hb xd_Sh_acceptDescriptor_29 rfl hl (Nat.le_of_ble_eq_true rfl) rfl (fun ls hl => ?_)
      have hl : lv_has ls 5 [(2, .int (-1)), (0, .ref (ad 0 5)), (1, .ref (ad 0 1))] := hl
      refine lv_aload_n hx hb xd_Sh_acceptDescriptor_30 rfl (lv_at hl 2 rfl) ?_
      refine lv_iconst (v := 2) hx hb xd_Sh_acceptDescriptor_31 (by decide) ?_
      have hFc := px_free hD hS hA
      refine va_calli (va_runV (As := [.int 2]) (rest := []) ⟨hx, hb, hml, hown, hT⟩ (xc_Li_nameAt l D kA H.size ad E RL ml nd len wn cs 2 (by first | assumption | omega)) (cwV 1 hT (wT_V yw_19 yw_20 yw_21 yw_17 yw_18) rfl rfl rfl (by decide +kernel) ⟨Nat.le_of_ble_eq_true rfl, Nat.le_of_ble_eq_true rfl⟩) (px_preV hK hP hD m_6 c_5 rfl) rfl rfl hl.1 rfl (lv_room (Nat.le_of_ble_eq_true rfl)) xd_Sh_acceptDescriptor_32 ⟨(Nat.le_of_ble_eq_true rfl), (Nat.le_of_ble_eq_true rfl)⟩) hS (fun q _ h => hFc q h) hFc (fun r34 u35 t H1 locs ht hvm hp36 hB hz1 hk1 hS => ?_)
      obtain ⟨hP1, hD1⟩ := hB
      rw [ht] at hP1
      have hD1 := hD1.weaken (fun _ _ _ h => hFc _ h)
      generalize H1 = H at hP1 hS ⊢
      have hP := hP1
      have hD := hD1
      have hP : va_P D xcl (rp ad E RL) H := hP
      have hD : va_D A (rp ad E RL) := hD
      refine lv_istore_n hx hb xd_Sh_acceptDescriptor_35 rfl hl (Nat.le_of_ble_eq_true rfl) rfl (fun ls hl => ?_)
      have hl : lv_has ls 5 [(3, .int r34), (2, .int (-1)), (0, .ref (ad 0 5)), (1, .ref (ad 0 1))] := hl
      refine lv_aload_n hx hb xd_Sh_acceptDescriptor_36 rfl (lv_at hl 3 rfl) ?_
      refine px_get (D := D) (ci := 1) (v := .int (nI wn)) (C := xR_Li) (T := xT_Li) (N := 5) hx hb hT xi_Li hown hK.1 hP m_6 c_5 rfl 4 (by decide) (hT _ yw_22) (fun _ h9 => h9) rfl xd_Sh_acceptDescriptor_37 ?_
      refine lv_iconst (v := 3) hx hb xd_Sh_acceptDescriptor_40 (by decide) ?_
      refine xn_ne (a := wn) (b := 3) (tgt := 57) hx hb xd_Sh_acceptDescriptor_41 (by decide) (by omega) (by omega) (fun hc37 => ?_) (fun hc37 => ?_)
      · refine lv_iconst (v := 0) hx hb xd_Sh_acceptDescriptor_57 (by decide) ?_
        refine lv_istore hx hb xd_Sh_acceptDescriptor_58 hl (Nat.le_of_ble_eq_true rfl) rfl (fun ls hl => ?_)
        have hl : lv_has ls 5 [(4, .int 0), (3, .int r34), (2, .int (-1)), (0, .ref (ad 0 5)), (1, .ref (ad 0 1))] := hl
        refine lv_iload hx hb xd_Sh_acceptDescriptor_60 (lv_at hl 0 rfl) ?_
        refine lv_if_eq (tgt := 74) hx hb xd_Sh_acceptDescriptor_62 (by decide) (fun _ => ?_) (fun hc38 => absurd (by decide) hc38)
        refine lv_iconst (v := (-1)) hx hb xd_Sh_acceptDescriptor_74 (by decide) ?_
        refine W.widen (k := 13) (n := 66) (Nat.le_of_ble_eq_true rfl) (Nat.le_of_ble_eq_true rfl) ?_
        exact W.iret (v := (-1)) hx hb hr (fun t ht hW => ⟨⟨(-1), (ad, E, RL), rfl, ⟨⟨nd, hCI⟩, rfl⟩, by rw [ht]; exact hP, hD⟩, hS.F ht⟩) hS.2.2 xd_Sh_acceptDescriptor_75
      · refine lv_iload_n hx hb xd_Sh_acceptDescriptor_44 rfl (lv_at hl 1 rfl) ?_
        refine lv_iconst (v := (-1)) hx hb xd_Sh_acceptDescriptor_45 (by decide) ?_
        refine lv_icmp_eq (tgt := 57) hx hb xd_Sh_acceptDescriptor_46 (by decide) (fun _ => ?_) (fun hc39 => absurd (by decide) hc39)
        refine lv_iconst (v := 0) hx hb xd_Sh_acceptDescriptor_57 (by decide) ?_
        refine lv_istore hx hb xd_Sh_acceptDescriptor_58 hl (Nat.le_of_ble_eq_true rfl) rfl (fun ls hl => ?_)
        have hl : lv_has ls 5 [(4, .int 0), (3, .int r34), (2, .int (-1)), (0, .ref (ad 0 5)), (1, .ref (ad 0 1))] := hl
        refine lv_iload hx hb xd_Sh_acceptDescriptor_60 (lv_at hl 0 rfl) ?_
        refine lv_if_eq (tgt := 74) hx hb xd_Sh_acceptDescriptor_62 (by decide) (fun _ => ?_) (fun hc40 => absurd (by decide) hc40)
        refine lv_iconst (v := (-1)) hx hb xd_Sh_acceptDescriptor_74 (by decide) ?_
        refine W.widen (k := 13) (n := 66) (Nat.le_of_ble_eq_true rfl) (Nat.le_of_ble_eq_true rfl) ?_
        exact W.iret (v := (-1)) hx hb hr (fun t ht hW => ⟨⟨(-1), (ad, E, RL), rfl, ⟨⟨nd, hCI⟩, rfl⟩, by rw [ht]; exact hP, hD⟩, hS.F ht⟩) hS.2.2 xd_Sh_acceptDescriptor_75
    · refine W.eq (g2 := F0 m 21 ls [.int 1]) rfl ?_
      refine lv_if_eq (tgt := 28) hx hb xd_Sh_acceptDescriptor_21 (by decide) (fun hc41 => absurd hc41 (by decide)) (fun _ => ?_)
      refine lv_iconst (v := 1) hx hb xd_Sh_acceptDescriptor_24 (by decide) ?_
      refine lv_goto (tgt := 29) hx hb xd_Sh_acceptDescriptor_25 (by decide) ?_
      refine lv_istore_n hx hb xd_Sh_acceptDescriptor_29 rfl hl (Nat.le_of_ble_eq_true rfl) rfl (fun ls hl => ?_)
      have hl : lv_has ls 5 [(2, .int 1), (0, .ref (ad 0 5)), (1, .ref (ad 0 1))] := hl
      refine lv_aload_n hx hb xd_Sh_acceptDescriptor_30 rfl (lv_at hl 2 rfl) ?_
      refine lv_iconst (v := 2) hx hb xd_Sh_acceptDescriptor_31 (by decide) ?_
      have hFc := px_free hD hS hA
      refine va_calli (va_runV (As := [.int 2]) (rest := []) ⟨hx, hb, hml, hown, hT⟩ (xc_Li_nameAt l D kA H.size ad E RL ml nd len wn cs 2 (by first | assumption | omega)) (cwV 1 hT (wT_V yw_19 yw_20 yw_21 yw_17 yw_18) rfl rfl rfl (by decide +kernel) ⟨Nat.le_of_ble_eq_true rfl, Nat.le_of_ble_eq_true rfl⟩) (px_preV hK hP hD m_6 c_5 rfl) rfl rfl hl.1 rfl (lv_room (Nat.le_of_ble_eq_true rfl)) xd_Sh_acceptDescriptor_32 ⟨(Nat.le_of_ble_eq_true rfl), (Nat.le_of_ble_eq_true rfl)⟩) hS (fun q _ h => hFc q h) hFc (fun r42 u43 t H1 locs ht hvm hp44 hB hz1 hk1 hS => ?_)
      obtain ⟨hP1, hD1⟩ := hB
      rw [ht] at hP1
      have hD1 := hD1.weaken (fun _ _ _ h => hFc _ h)
      generalize H1 = H at hP1 hS ⊢
      have hP := hP1
      have hD := hD1
      have hP : va_P D xcl (rp ad E RL) H := hP
      have hD : va_D A (rp ad E RL) := hD
      refine lv_istore_n hx hb xd_Sh_acceptDescriptor_35 rfl hl (Nat.le_of_ble_eq_true rfl) rfl (fun ls hl => ?_)
      have hl : lv_has ls 5 [(3, .int r42), (2, .int 1), (0, .ref (ad 0 5)), (1, .ref (ad 0 1))] := hl
      refine lv_aload_n hx hb xd_Sh_acceptDescriptor_36 rfl (lv_at hl 3 rfl) ?_
      refine px_get (D := D) (ci := 1) (v := .int (nI wn)) (C := xR_Li) (T := xT_Li) (N := 5) hx hb hT xi_Li hown hK.1 hP m_6 c_5 rfl 4 (by decide) (hT _ yw_22) (fun _ h9 => h9) rfl xd_Sh_acceptDescriptor_37 ?_
      refine lv_iconst (v := 3) hx hb xd_Sh_acceptDescriptor_40 (by decide) ?_
      refine xn_ne (a := wn) (b := 3) (tgt := 57) hx hb xd_Sh_acceptDescriptor_41 (by decide) (by omega) (by omega) (fun hc45 => ?_) (fun hc45 => ?_)
      · refine lv_iconst (v := 0) hx hb xd_Sh_acceptDescriptor_57 (by decide) ?_
        refine lv_istore hx hb xd_Sh_acceptDescriptor_58 hl (Nat.le_of_ble_eq_true rfl) rfl (fun ls hl => ?_)
        have hl : lv_has ls 5 [(4, .int 0), (3, .int r42), (2, .int 1), (0, .ref (ad 0 5)), (1, .ref (ad 0 1))] := hl
        refine lv_iload hx hb xd_Sh_acceptDescriptor_60 (lv_at hl 0 rfl) ?_
        refine lv_if_eq (tgt := 74) hx hb xd_Sh_acceptDescriptor_62 (by decide) (fun _ => ?_) (fun hc46 => absurd (by decide) hc46)
        refine lv_iconst (v := (-1)) hx hb xd_Sh_acceptDescriptor_74 (by decide) ?_
        refine W.widen (k := 13) (n := 66) (Nat.le_of_ble_eq_true rfl) (Nat.le_of_ble_eq_true rfl) ?_
        exact W.iret (v := (-1)) hx hb hr (fun t ht hW => ⟨⟨(-1), (ad, E, RL), rfl, ⟨⟨nd, hCI⟩, rfl⟩, by rw [ht]; exact hP, hD⟩, hS.F ht⟩) hS.2.2 xd_Sh_acceptDescriptor_75
      · refine lv_iload_n hx hb xd_Sh_acceptDescriptor_44 rfl (lv_at hl 1 rfl) ?_
        refine lv_iconst (v := (-1)) hx hb xd_Sh_acceptDescriptor_45 (by decide) ?_
        refine lv_icmp_eq (tgt := 57) hx hb xd_Sh_acceptDescriptor_46 (by decide) (fun hc47 => absurd hc47 (by decide)) (fun _ => ?_)
        refine lv_iload_n hx hb xd_Sh_acceptDescriptor_49 rfl (lv_at hl 0 rfl) ?_
        refine lv_if_eq (tgt := 57) hx hb xd_Sh_acceptDescriptor_50 (by decide) (fun hc48 => ?_) (fun hc48 => ?_)
        · refine lv_iconst (v := 0) hx hb xd_Sh_acceptDescriptor_57 (by decide) ?_
          refine lv_istore hx hb xd_Sh_acceptDescriptor_58 hl (Nat.le_of_ble_eq_true rfl) rfl (fun ls hl => ?_)
          have hl : lv_has ls 5 [(4, .int 0), (3, .int r42), (2, .int 1), (0, .ref (ad 0 5)), (1, .ref (ad 0 1))] := hl
          refine lv_iload hx hb xd_Sh_acceptDescriptor_60 (lv_at hl 0 rfl) ?_
          refine lv_if_eq (tgt := 74) hx hb xd_Sh_acceptDescriptor_62 (by decide) (fun _ => ?_) (fun hc49 => absurd (by decide) hc49)
          refine lv_iconst (v := (-1)) hx hb xd_Sh_acceptDescriptor_74 (by decide) ?_
          refine W.widen (k := 13) (n := 66) (Nat.le_of_ble_eq_true rfl) (Nat.le_of_ble_eq_true rfl) ?_
          exact W.iret (v := (-1)) hx hb hr (fun t ht hW => ⟨⟨(-1), (ad, E, RL), rfl, ⟨⟨nd, hCI⟩, rfl⟩, by rw [ht]; exact hP, hD⟩, hS.F ht⟩) hS.2.2 xd_Sh_acceptDescriptor_75
        · refine lv_iconst (v := 1) hx hb xd_Sh_acceptDescriptor_53 (by decide) ?_
          refine lv_goto (tgt := 58) hx hb xd_Sh_acceptDescriptor_54 (by decide) ?_
          refine lv_istore hx hb xd_Sh_acceptDescriptor_58 hl (Nat.le_of_ble_eq_true rfl) rfl (fun ls hl => ?_)
          have hl : lv_has ls 5 [(4, .int 1), (3, .int r42), (2, .int 1), (0, .ref (ad 0 5)), (1, .ref (ad 0 1))] := hl
          refine lv_iload hx hb xd_Sh_acceptDescriptor_60 (lv_at hl 0 rfl) ?_
          refine lv_if_eq (tgt := 74) hx hb xd_Sh_acceptDescriptor_62 (by decide) (fun hc50 => absurd hc50 (by decide)) (fun _ => ?_)
          refine lv_aload_n hx hb xd_Sh_acceptDescriptor_65 rfl (lv_at hl 3 rfl) ?_
          refine lv_iload_n hx hb xd_Sh_acceptDescriptor_66 rfl (lv_at hl 2 rfl) ?_
          refine lv_iload_n hx hb xd_Sh_acceptDescriptor_67 rfl (lv_at hl 1 rfl) ?_
          have hFc := px_free hD hS hA
          refine va_callq (va_runV (As := [.int 1, .int r42]) (rest := []) ⟨hx, hb, hml, hown, hT⟩ (xc_Sh_find l D kA H.size ad E RL ml nd len wn cs 1 r42 (by first | assumption | omega)) (cwV 2 hT (wT_V yw_24 yw_25 yw_26 yw_27 yw_23) rfl rfl rfl (by decide +kernel) ⟨Nat.le_of_ble_eq_true rfl, Nat.le_of_ble_eq_true rfl⟩) (px_preV hK hP hD m_15 c_14 rfl) rfl rfl hl.1 rfl (lv_room (Nat.le_of_ble_eq_true rfl)) xd_Sh_acceptDescriptor_68 ⟨(Nat.le_of_ble_eq_true rfl), (Nat.le_of_ble_eq_true rfl)⟩) hS (fun q _ h => hFc q h) hFc (fun r51 u52 t H1 locs ht hvm hp53 hB hz1 hk1 hS => ?_)
          obtain ⟨hP1, hD1⟩ := hB
          rw [ht] at hP1
          have hD1 := hD1.weaken (fun _ _ _ h => hFc _ h)
          generalize H1 = H at hP1 hS ⊢
          have hP := hP1
          have hD := hD1
          have hP : va_P D xcl (rp ad E RL) H := hP
          have hD : va_D A (rp ad E RL) := hD
          rcases hp53 with rfl | ⟨z54, z55, rfl⟩
          · refine W.eq (g2 := F0 m 71 ls [.null]) rfl ?_
            refine lv_ifnullN (tgt := 76) hx hb xd_Sh_acceptDescriptor_71 (by decide) ?_
            refine lv_aload_n hx hb xd_Sh_acceptDescriptor_76 rfl (lv_at hl 3 rfl) ?_
            refine px_get (D := D) (ci := 2) (v := .int (nI nd)) (C := xR_Sh) (T := xT_Sh) (N := 2) hx hb hT xi_Sh hown hK.1 hP m_15 c_14 rfl 1 (by decide) (hT _ yw_28) (fun _ h9 => h9) rfl xd_Sh_acceptDescriptor_77 ?_
            refine lv_bipush (v := 12) hx hb xd_Sh_acceptDescriptor_80 (by decide) ?_
            refine xn_lt (a := nd) (b := 12) (tgt := 88) hx hb xd_Sh_acceptDescriptor_82 (by decide) (by omega) (by omega) (fun hc56 => ?_) (fun hc56 => ?_)
            · refine lv_aload_n hx hb xd_Sh_acceptDescriptor_88 rfl (lv_at hl 3 rfl) ?_
              refine px_get (D := D) (ci := 2) (v := .ref (ad 0 6)) (C := xR_Sh) (T := xT_Sh) (N := 2) hx hb hT xi_Sh hown hK.1 hP m_15 c_14 rfl 0 (by decide) (hT _ yw_29) (fun _ h9 => h9) rfl xd_Sh_acceptDescriptor_89 ?_
              refine lv_aload_n hx hb xd_Sh_acceptDescriptor_92 rfl (lv_at hl 3 rfl) ?_
              refine px_get (D := D) (ci := 2) (v := .int (nI nd)) (C := xR_Sh) (T := xT_Sh) (N := 2) hx hb hT xi_Sh hown hK.1 hP m_15 c_14 rfl 1 (by decide) (hT _ yw_28) (fun _ h9 => h9) rfl xd_Sh_acceptDescriptor_93 ?_
              refine px_new (ci := 7) (fs := [.int 0, .int 0, .int 0, .null, .null, .null, .null, .null, .null, .null, .null, .int 0]) (C := xR_Ds) (T := xT_Ds) (N := 12) (1 + nd) 0 hx hb hT xi_Ds xt_Ds xt_Ds_ok hown (hT _ yw_30) (hT _ yw_31) (hT _ yw_32) hK.1 hP hD hS hA rfl (by decide +kernel) (Nat.le_of_ble_eq_true rfl) (Nat.le_of_ble_eq_true rfl) xd_Sh_acceptDescriptor_96 (fun ad57 E58 RL59 H hA1 hE1 hs1 hm1 hP hD hS => ?_)
              have fE60 : ∀ b2 o2, ¬ (b2 = 1 + nd ∧ o2 = 0) → E58 b2 o2 = E b2 o2 := fun b2 o2 h9 => by rw [hE1]; exact up2_ne (by omega)
              have fA61 : ∀ b2 o2, ¬ (b2 = 1 + nd ∧ o2 = 0) → ad57 b2 o2 = ad b2 o2 := fun b2 o2 h9 => by rw [hA1]; exact up2_ne (by omega)
              have hs62 := hs1
              refine W.eq (g2 := F0 m _ ls [.ref (ad57 (1 + nd) 0), .int (nI nd), .ref (ad57 0 6)]) (by rw [fA61 0 6 (by omega)]) ?_
              have c_63 : E58 (1 + nd) 0 = .inr (7, [.int 0, .int 0, .int 0, .null, .null, .null, .null, .null, .null, .null, .null, .int 0]) := by rw [hE1]; exact up2_eq
              have hl : lv_has ls 5 [(4, .int 1), (3, .int r42), (2, .int 1), (0, .ref (ad57 0 5)), (1, .ref (ad57 0 1))] := by
                rw [fA61 0 5 (by omega), fA61 0 1 (by omega)]; exact hl
              have m_65 : (0, 0) ∈ RL59 := hs62 _ m_3
              have m_66 : (0, 1) ∈ RL59 := hs62 _ m_6
              have m_67 : (0, 2) ∈ RL59 := hs62 _ m_8
              have m_68 : (0, 3) ∈ RL59 := hs62 _ m_10
              have m_69 : (0, 4) ∈ RL59 := hs62 _ m_12
              have m_70 : (0, 5) ∈ RL59 := hs62 _ m_15
              have m_71 : (0, 6) ∈ RL59 := hs62 _ m_17
              have m_72 : (0, 7) ∈ RL59 := hs62 _ m_20
              have m_73 : (0, 8) ∈ RL59 := hs62 _ m_22
              have m_74 : (0, 9) ∈ RL59 := hs62 _ m_25
              have c_75 : E58 0 0 = .inr (0, [.ref (ad57 0 1), .ref (ad57 0 5), .ref (ad57 0 7), .ref (ad57 0 9), .int (nI ml), .int lf_1]) := by rw [fE60 0 0 (by omega), fA61 0 1 (by omega), fA61 0 5 (by omega), fA61 0 7 (by omega), fA61 0 9 (by omega)]; exact c_2
              have c_76 : E58 0 1 = .inr (1, [.ref (ad57 0 2), .ref (ad57 0 3), .ref (ad57 0 4), .int (nI len), .int (nI wn)]) := by rw [fE60 0 1 (by omega), fA61 0 2 (by omega), fA61 0 3 (by omega), fA61 0 4 (by omega)]; exact c_5
              have c_77 : E58 0 2 = .inl (kA 1, 40, .inl tx_4) := by rw [fE60 0 2 (by omega)]; exact c_7
              have c_78 : E58 0 3 = .inl (kA 0, 20, .inl fb_4) := by rw [fE60 0 3 (by omega)]; exact c_9
              have c_79 : E58 0 4 = .inl (kA 0, 20, .inl fe_4) := by rw [fE60 0 4 (by omega)]; exact c_11
              have c_80 : E58 0 5 = .inr (2, [.ref (ad57 0 6), .int (nI nd)]) := by rw [fE60 0 5 (by omega), fA61 0 6 (by omega)]; exact c_14
              have c_81 : E58 0 6 = .inl (kA 4, 12, .inr (.inr (.inr (.inr fd_13)))) := by rw [fE60 0 6 (by omega)]; exact c_16
              have c_82 : E58 0 7 = .inr (3, [.ref (ad57 0 5), .ref (ad57 0 8), .int (nI cs), .int cf_18, pv_18]) := by rw [fE60 0 7 (by omega), fA61 0 5 (by omega), fA61 0 8 (by omega)]; exact c_19
              have c_83 : E58 0 8 = .inl (kA 4, 12, .inr (.inr (.inr (.inr fc_18)))) := by rw [fE60 0 8 (by omega)]; exact c_21
              have c_84 : E58 0 9 = .inl (kA 5, 5, .inr (.inr (.inr (.inr fl_23)))) := by rw [fE60 0 9 (by omega)]; exact c_24
              have m_64 : (1 + nd, 0) ∈ RL59 := hm1
              have hP : va_P D xcl (rp ad57 E58 RL59) H := hP
              have hD : va_D A (rp ad57 E58 RL59) := hD
              refine lv_dup hx hb xd_Sh_acceptDescriptor_99 rfl ?_
              refine lv_aload_n hx hb xd_Sh_acceptDescriptor_100 rfl (lv_at hl 3 rfl) ?_
              refine px_get (D := D) (ci := 2) (v := .int (nI nd)) (C := xR_Sh) (T := xT_Sh) (N := 2) hx hb hT xi_Sh hown hK.1 hP m_70 c_80 rfl 1 (by decide) (hT _ yw_28) (fun _ h9 => h9) rfl xd_Sh_acceptDescriptor_101 ?_
              refine lv_iload_n hx hb xd_Sh_acceptDescriptor_104 rfl (lv_at hl 2 rfl) ?_
              refine lv_iload_n hx hb xd_Sh_acceptDescriptor_105 rfl (lv_at hl 1 rfl) ?_
              have hFc := px_free hD hS hA
              refine va_callv (va_runI (As := [.int (nI nd), .int 1, .int r42]) (rest := [.ref (ad57 (1 + nd) 0), .int (nI nd), .ref (ad57 0 6)]) ⟨hx, hb, hml, hown, hT⟩ (xc_Ds_init l D kA H.size ad57 E58 RL59 nd 1 r42 m_64 c_63) (cwI 3 hT (wT_I yw_33) rfl rfl rfl (hT _ yw_32) (hT _ yw_34) (hT _ yw_35) rfl (by decide +kernel) ⟨Nat.le_of_ble_eq_true rfl, Nat.le_of_ble_eq_true rfl⟩) (x_preS hK hP hD) rfl rfl hl.1 rfl (lv_room (Nat.le_of_ble_eq_true rfl)) xd_Sh_acceptDescriptor_106 ⟨(Nat.le_of_ble_eq_true rfl), (Nat.le_of_ble_eq_true rfl)⟩) hS (fun q _ h => hFc q h) hFc (fun u86 t H1 locs ht hvm hp87 hB hz1 hk1 hS => ?_)
              obtain ⟨hP1, hD1⟩ := hB
              rw [ht] at hP1
              have hD1 := hD1.weaken (fun _ _ _ h => hFc _ h)
              generalize H1 = H at hP1 hS ⊢
              have hP := hP1
              have hD := hD1
              obtain ⟨ad88, E89, RL90⟩ := u86
              obtain ⟨hp119, p_91, p_92, p_93, p_94, p_95, p_96, p_97, p_98, p_99, p_100, p_101, p_102, p_103, p_104, p_105, p_106, p_107, p_108, p_109, p_110, p_111, p_112, p_113, p_114, p_115, p_116, p_117, p_118⟩ := hp87
              have p_91 : E89 (1 + nd) 0 = .inr (7, [.int (nI nd), .int 1, .int r42, .ref (ad88 (1 + nd) 1), .ref (ad88 (1 + nd) 9), .ref (ad88 (1 + nd) 10), .ref (ad88 (1 + nd) 2), .ref (ad88 (1 + nd) 11), .ref (ad88 (1 + nd) 12), .ref (ad88 (1 + nd) 3), .ref (ad88 (1 + nd) 4), .int 0]) := p_91
              have p_92 : E89 (1 + nd) 1 = .inr (8, [.ref (ad88 (1 + nd) 5), .int 0]) := p_92
              have p_93 : E89 (1 + nd) 2 = .inr (8, [.ref (ad88 (1 + nd) 6), .int 0]) := p_93
              have p_94 : E89 (1 + nd) 3 = .inr (8, [.ref (ad88 (1 + nd) 7), .int 0]) := p_94
              have p_95 : E89 (1 + nd) 4 = .inr (8, [.ref (ad88 (1 + nd) 8), .int 0]) := p_95
              have p_96 : E89 (1 + nd) 5 = .inl (kA 0, 6, .inl (fun _ => 0)) := p_96
              have p_97 : E89 (1 + nd) 6 = .inl (kA 0, 5, .inl (fun _ => 0)) := p_97
              have p_98 : E89 (1 + nd) 7 = .inl (kA 0, 3, .inl (fun _ => 0)) := p_98
              have p_99 : E89 (1 + nd) 8 = .inl (kA 0, 3, .inl (fun _ => 0)) := p_99
              have p_100 : E89 (1 + nd) 9 = .inl (kA 8, 6, .inr (.inr (.inr (.inr (fun _ => none))))) := p_100
              have p_101 : E89 (1 + nd) 10 = .inl (kA 8, 6, .inr (.inr (.inr (.inr (fun _ => none))))) := p_101
              have p_102 : E89 (1 + nd) 11 = .inl (kA 2, 5, .inl (fun _ => 0)) := p_102
              have p_103 : E89 (1 + nd) 12 = .inl (kA 2, 5, .inl (fun _ => 0)) := p_103
              have p_104 : (∀ b2 o2, ¬ (b2 = 1 + nd ∧ o2 = 0) → ¬ (b2 = 1 + nd ∧ o2 = 1) → ¬ (b2 = 1 + nd ∧ o2 = 2) → ¬ (b2 = 1 + nd ∧ o2 = 3) → ¬ (b2 = 1 + nd ∧ o2 = 4) → ¬ (b2 = 1 + nd ∧ o2 = 5) → ¬ (b2 = 1 + nd ∧ o2 = 6) → ¬ (b2 = 1 + nd ∧ o2 = 7) → ¬ (b2 = 1 + nd ∧ o2 = 8) → ¬ (b2 = 1 + nd ∧ o2 = 9) → ¬ (b2 = 1 + nd ∧ o2 = 10) → ¬ (b2 = 1 + nd ∧ o2 = 11) → ¬ (b2 = 1 + nd ∧ o2 = 12) → E89 b2 o2 = E58 b2 o2) := p_104
              have p_105 : (∀ b2 o2, ¬ (b2 = 1 + nd ∧ o2 = 1) → ¬ (b2 = 1 + nd ∧ o2 = 2) → ¬ (b2 = 1 + nd ∧ o2 = 3) → ¬ (b2 = 1 + nd ∧ o2 = 4) → ¬ (b2 = 1 + nd ∧ o2 = 5) → ¬ (b2 = 1 + nd ∧ o2 = 6) → ¬ (b2 = 1 + nd ∧ o2 = 7) → ¬ (b2 = 1 + nd ∧ o2 = 8) → ¬ (b2 = 1 + nd ∧ o2 = 9) → ¬ (b2 = 1 + nd ∧ o2 = 10) → ¬ (b2 = 1 + nd ∧ o2 = 11) → ¬ (b2 = 1 + nd ∧ o2 = 12) → ad88 b2 o2 = ad57 b2 o2) := p_105
              have p_106 : (∀ x ∈ RL59, x ∈ RL90) := p_106
              have p_107 : (1 + nd, 1) ∈ RL90 := p_107
              have p_108 : (1 + nd, 2) ∈ RL90 := p_108
              have p_109 : (1 + nd, 3) ∈ RL90 := p_109
              have p_110 : (1 + nd, 4) ∈ RL90 := p_110
              have p_111 : (1 + nd, 5) ∈ RL90 := p_111
              have p_112 : (1 + nd, 6) ∈ RL90 := p_112
              have p_113 : (1 + nd, 7) ∈ RL90 := p_113
              have p_114 : (1 + nd, 8) ∈ RL90 := p_114
              have p_115 : (1 + nd, 9) ∈ RL90 := p_115
              have p_116 : (1 + nd, 10) ∈ RL90 := p_116
              have p_117 : (1 + nd, 11) ∈ RL90 := p_117
              have p_118 : (1 + nd, 12) ∈ RL90 := p_118
              refine W.eq (g2 := F0 m 109 ls [.ref (ad88 (1 + nd) 0), .int (nI nd), .ref (ad88 0 6)]) (by rw [p_105 (1 + nd) 0 (by omega) (by omega) (by omega) (by omega) (by omega) (by omega) (by omega) (by omega) (by omega) (by omega) (by omega) (by omega), p_105 0 6 (by omega) (by omega) (by omega) (by omega) (by omega) (by omega) (by omega) (by omega) (by omega) (by omega) (by omega) (by omega)]) ?_
              have hl : lv_has ls 5 [(4, .int 1), (3, .int r42), (2, .int 1), (0, .ref (ad88 0 5)), (1, .ref (ad88 0 1))] := by
                rw [p_105 0 5 (by omega) (by omega) (by omega) (by omega) (by omega) (by omega) (by omega) (by omega) (by omega) (by omega) (by omega) (by omega), p_105 0 1 (by omega) (by omega) (by omega) (by omega) (by omega) (by omega) (by omega) (by omega) (by omega) (by omega) (by omega) (by omega)]; exact hl
              have m_120 : (0, 0) ∈ RL90 := p_106 _ m_65
              have m_121 : (0, 1) ∈ RL90 := p_106 _ m_66
              have m_122 : (0, 2) ∈ RL90 := p_106 _ m_67
              have m_123 : (0, 3) ∈ RL90 := p_106 _ m_68
              have m_124 : (0, 4) ∈ RL90 := p_106 _ m_69
              have m_125 : (0, 5) ∈ RL90 := p_106 _ m_70
              have m_126 : (0, 6) ∈ RL90 := p_106 _ m_71
              have m_127 : (0, 7) ∈ RL90 := p_106 _ m_72
              have m_128 : (0, 8) ∈ RL90 := p_106 _ m_73
              have m_129 : (0, 9) ∈ RL90 := p_106 _ m_74
              have m_130 : (1 + nd, 0) ∈ RL90 := p_106 _ m_64
              have c_131 : E89 0 0 = .inr (0, [.ref (ad88 0 1), .ref (ad88 0 5), .ref (ad88 0 7), .ref (ad88 0 9), .int (nI ml), .int lf_1]) := by rw [p_104 0 0 (by omega) (by omega) (by omega) (by omega) (by omega) (by omega) (by omega) (by omega) (by omega) (by omega) (by omega) (by omega) (by omega), p_105 0 1 (by omega) (by omega) (by omega) (by omega) (by omega) (by omega) (by omega) (by omega) (by omega) (by omega) (by omega) (by omega), p_105 0 5 (by omega) (by omega) (by omega) (by omega) (by omega) (by omega) (by omega) (by omega) (by omega) (by omega) (by omega) (by omega), p_105 0 7 (by omega) (by omega) (by omega) (by omega) (by omega) (by omega) (by omega) (by omega) (by omega) (by omega) (by omega) (by omega), p_105 0 9 (by omega) (by omega) (by omega) (by omega) (by omega) (by omega) (by omega) (by omega) (by omega) (by omega) (by omega) (by omega)]; exact c_75
              have c_132 : E89 0 1 = .inr (1, [.ref (ad88 0 2), .ref (ad88 0 3), .ref (ad88 0 4), .int (nI len), .int (nI wn)]) := by rw [p_104 0 1 (by omega) (by omega) (by omega) (by omega) (by omega) (by omega) (by omega) (by omega) (by omega) (by omega) (by omega) (by omega) (by omega), p_105 0 2 (by omega) (by omega) (by omega) (by omega) (by omega) (by omega) (by omega) (by omega) (by omega) (by omega) (by omega) (by omega), p_105 0 3 (by omega) (by omega) (by omega) (by omega) (by omega) (by omega) (by omega) (by omega) (by omega) (by omega) (by omega) (by omega), p_105 0 4 (by omega) (by omega) (by omega) (by omega) (by omega) (by omega) (by omega) (by omega) (by omega) (by omega) (by omega) (by omega)]; exact c_76
              have c_133 : E89 0 2 = .inl (kA 1, 40, .inl tx_4) := by rw [p_104 0 2 (by omega) (by omega) (by omega) (by omega) (by omega) (by omega) (by omega) (by omega) (by omega) (by omega) (by omega) (by omega) (by omega)]; exact c_77
              have c_134 : E89 0 3 = .inl (kA 0, 20, .inl fb_4) := by rw [p_104 0 3 (by omega) (by omega) (by omega) (by omega) (by omega) (by omega) (by omega) (by omega) (by omega) (by omega) (by omega) (by omega) (by omega)]; exact c_78
              have c_135 : E89 0 4 = .inl (kA 0, 20, .inl fe_4) := by rw [p_104 0 4 (by omega) (by omega) (by omega) (by omega) (by omega) (by omega) (by omega) (by omega) (by omega) (by omega) (by omega) (by omega) (by omega)]; exact c_79
              have c_136 : E89 0 5 = .inr (2, [.ref (ad88 0 6), .int (nI nd)]) := by rw [p_104 0 5 (by omega) (by omega) (by omega) (by omega) (by omega) (by omega) (by omega) (by omega) (by omega) (by omega) (by omega) (by omega) (by omega), p_105 0 6 (by omega) (by omega) (by omega) (by omega) (by omega) (by omega) (by omega) (by omega) (by omega) (by omega) (by omega) (by omega)]; exact c_80
              have c_137 : E89 0 6 = .inl (kA 4, 12, .inr (.inr (.inr (.inr fd_13)))) := by rw [p_104 0 6 (by omega) (by omega) (by omega) (by omega) (by omega) (by omega) (by omega) (by omega) (by omega) (by omega) (by omega) (by omega) (by omega)]; exact c_81
              have c_138 : E89 0 7 = .inr (3, [.ref (ad88 0 5), .ref (ad88 0 8), .int (nI cs), .int cf_18, pv_18]) := by rw [p_104 0 7 (by omega) (by omega) (by omega) (by omega) (by omega) (by omega) (by omega) (by omega) (by omega) (by omega) (by omega) (by omega) (by omega), p_105 0 5 (by omega) (by omega) (by omega) (by omega) (by omega) (by omega) (by omega) (by omega) (by omega) (by omega) (by omega) (by omega), p_105 0 8 (by omega) (by omega) (by omega) (by omega) (by omega) (by omega) (by omega) (by omega) (by omega) (by omega) (by omega) (by omega)]; exact c_82
              have c_139 : E89 0 8 = .inl (kA 4, 12, .inr (.inr (.inr (.inr fc_18)))) := by rw [p_104 0 8 (by omega) (by omega) (by omega) (by omega) (by omega) (by omega) (by omega) (by omega) (by omega) (by omega) (by omega) (by omega) (by omega)]; exact c_83
              have c_140 : E89 0 9 = .inl (kA 5, 5, .inr (.inr (.inr (.inr fl_23)))) := by rw [p_104 0 9 (by omega) (by omega) (by omega) (by omega) (by omega) (by omega) (by omega) (by omega) (by omega) (by omega) (by omega) (by omega) (by omega)]; exact c_84
              have hP : va_P D xcl (rp ad88 E89 RL90) H := hP
              have hD : va_D A (rp ad88 E89 RL90) := hD
              refine px_aast (i := nd) (r := (xR_Ds, xT_Ds, 12)) hx hb hK.1 hP hD hS m_126 c_137 4 rfl m_130 p_91 rfl (by omega) (by decide) xd_Sh_acceptDescriptor_109 (fun H locs hP hD hS => ?_)
              have hP : va_P D xcl (rp ad88 (up2 E89 0 6 (.inl (kA 4, 12, .inr (.inr (.inr (.inr (va_up fd_13 nd (some (ad88 (1 + nd) 0))))))))) RL90) H := hP
              have hD : va_D A (rp ad88 (up2 E89 0 6 (.inl (kA 4, 12, .inr (.inr (.inr (.inr (va_up fd_13 nd (some (ad88 (1 + nd) 0))))))))) RL90) := hD
              generalize hE142 : up2 E89 0 6 (.inl (kA 4, 12, .inr (.inr (.inr (.inr (va_up fd_13 nd (some (ad88 (1 + nd) 0)))))))) = E141 at hP hD
              have fE143 : ∀ b2 o2, ¬ (b2 = 0 ∧ o2 = 6) → E141 b2 o2 = E89 b2 o2 := fun b2 o2 h9 => by rw [← hE142]; exact up2_ne (by omega)
              have c_144 : E141 0 6 = .inl (kA 4, 12, .inr (.inr (.inr (.inr (va_up fd_13 nd (some (ad88 (1 + nd) 0))))))) := by rw [← hE142]; exact up2_eq
              have c_145 : E141 (1 + nd) 0 = .inr (7, [.int (nI nd), .int 1, .int r42, .ref (ad88 (1 + nd) 1), .ref (ad88 (1 + nd) 9), .ref (ad88 (1 + nd) 10), .ref (ad88 (1 + nd) 2), .ref (ad88 (1 + nd) 11), .ref (ad88 (1 + nd) 12), .ref (ad88 (1 + nd) 3), .ref (ad88 (1 + nd) 4), .int 0]) := (fE143 (1 + nd) 0 (by omega)).trans p_91
              have c_146 : E141 (1 + nd) 1 = .inr (8, [.ref (ad88 (1 + nd) 5), .int 0]) := (fE143 (1 + nd) 1 (by omega)).trans p_92
              have c_147 : E141 (1 + nd) 2 = .inr (8, [.ref (ad88 (1 + nd) 6), .int 0]) := (fE143 (1 + nd) 2 (by omega)).trans p_93
              have c_148 : E141 (1 + nd) 3 = .inr (8, [.ref (ad88 (1 + nd) 7), .int 0]) := (fE143 (1 + nd) 3 (by omega)).trans p_94
              have c_149 : E141 (1 + nd) 4 = .inr (8, [.ref (ad88 (1 + nd) 8), .int 0]) := (fE143 (1 + nd) 4 (by omega)).trans p_95
              have c_150 : E141 (1 + nd) 5 = .inl (kA 0, 6, .inl (fun _ => 0)) := (fE143 (1 + nd) 5 (by omega)).trans p_96
              have c_151 : E141 (1 + nd) 6 = .inl (kA 0, 5, .inl (fun _ => 0)) := (fE143 (1 + nd) 6 (by omega)).trans p_97
              have c_152 : E141 (1 + nd) 7 = .inl (kA 0, 3, .inl (fun _ => 0)) := (fE143 (1 + nd) 7 (by omega)).trans p_98
              have c_153 : E141 (1 + nd) 8 = .inl (kA 0, 3, .inl (fun _ => 0)) := (fE143 (1 + nd) 8 (by omega)).trans p_99
              have c_154 : E141 (1 + nd) 9 = .inl (kA 8, 6, .inr (.inr (.inr (.inr (fun _ => none))))) := (fE143 (1 + nd) 9 (by omega)).trans p_100
              have c_155 : E141 (1 + nd) 10 = .inl (kA 8, 6, .inr (.inr (.inr (.inr (fun _ => none))))) := (fE143 (1 + nd) 10 (by omega)).trans p_101
              have c_156 : E141 (1 + nd) 11 = .inl (kA 2, 5, .inl (fun _ => 0)) := (fE143 (1 + nd) 11 (by omega)).trans p_102
              have c_157 : E141 (1 + nd) 12 = .inl (kA 2, 5, .inl (fun _ => 0)) := (fE143 (1 + nd) 12 (by omega)).trans p_103
              have c_158 : E141 0 0 = .inr (0, [.ref (ad88 0 1), .ref (ad88 0 5), .ref (ad88 0 7), .ref (ad88 0 9), .int (nI ml), .int lf_1]) := (fE143 0 0 (by omega)).trans c_131
              have c_159 : E141 0 1 = .inr (1, [.ref (ad88 0 2), .ref (ad88 0 3), .ref (ad88 0 4), .int (nI len), .int (nI wn)]) := (fE143 0 1 (by omega)).trans c_132
              have c_160 : E141 0 2 = .inl (kA 1, 40, .inl tx_4) := (fE143 0 2 (by omega)).trans c_133
              have c_161 : E141 0 3 = .inl (kA 0, 20, .inl fb_4) := (fE143 0 3 (by omega)).trans c_134
              have c_162 : E141 0 4 = .inl (kA 0, 20, .inl fe_4) := (fE143 0 4 (by omega)).trans c_135
              have c_163 : E141 0 5 = .inr (2, [.ref (ad88 0 6), .int (nI nd)]) := (fE143 0 5 (by omega)).trans c_136
              have c_164 : E141 0 7 = .inr (3, [.ref (ad88 0 5), .ref (ad88 0 8), .int (nI cs), .int cf_18, pv_18]) := (fE143 0 7 (by omega)).trans c_138
              have c_165 : E141 0 8 = .inl (kA 4, 12, .inr (.inr (.inr (.inr fc_18)))) := (fE143 0 8 (by omega)).trans c_139
              have c_166 : E141 0 9 = .inl (kA 5, 5, .inr (.inr (.inr (.inr fl_23)))) := (fE143 0 9 (by omega)).trans c_140
              refine lv_aload_n hx hb xd_Sh_acceptDescriptor_110 rfl (lv_at hl 3 rfl) ?_
              refine lv_dup hx hb xd_Sh_acceptDescriptor_111 rfl ?_
              refine px_get (D := D) (ci := 2) (v := .int (nI nd)) (C := xR_Sh) (T := xT_Sh) (N := 2) hx hb hT xi_Sh hown hK.1 hP m_125 c_163 rfl 1 (by decide) (hT _ yw_28) (fun _ h9 => h9) rfl xd_Sh_acceptDescriptor_112 ?_
              refine lv_iconst (v := 1) hx hb xd_Sh_acceptDescriptor_115 (by decide) ?_
              refine lv_iadd hx hb xd_Sh_acceptDescriptor_116 ?_
              refine xn_top (y := nI (nd + 1)) (nI_add nd 1) ?_
              refine px_put (D := D) (ci := 2) (v := .int (nI (nd + 1))) (ty := .int) (C := xR_Sh) (T := xT_Sh) (N := 2) hx hb hT xi_Sh xt_Sh xt_Sh_ok xn_Sh hown hK.1 hP hD hS m_125 c_163 rfl 1 (by decide) (hT _ yw_28) (fun _ h9 => h9) rfl (by decide +kernel) rfl rfl (Nat.le_of_ble_eq_true rfl) xd_Sh_acceptDescriptor_117 (fun H locs hP hD hS => ?_)
              have hP : va_P D xcl (rp ad88 (up2 E141 0 5 (.inr (2, [.ref (ad88 0 6), .int (nI (nd + 1))]))) RL90) H := hP
              have hD : va_D A (rp ad88 (up2 E141 0 5 (.inr (2, [.ref (ad88 0 6), .int (nI (nd + 1))]))) RL90) := hD
              generalize hE168 : up2 E141 0 5 (.inr (2, [.ref (ad88 0 6), .int (nI (nd + 1))])) = E167 at hP hD
              have fE169 : ∀ b2 o2, ¬ (b2 = 0 ∧ o2 = 5) → E167 b2 o2 = E141 b2 o2 := fun b2 o2 h9 => by rw [← hE168]; exact up2_ne (by omega)
              have c_170 : E167 0 5 = .inr (2, [.ref (ad88 0 6), .int (nI (nd + 1))]) := by rw [← hE168]; exact up2_eq
              have c_171 : E167 0 6 = .inl (kA 4, 12, .inr (.inr (.inr (.inr (va_up fd_13 nd (some (ad88 (1 + nd) 0))))))) := (fE169 0 6 (by omega)).trans c_144
              have c_172 : E167 (1 + nd) 0 = .inr (7, [.int (nI nd), .int 1, .int r42, .ref (ad88 (1 + nd) 1), .ref (ad88 (1 + nd) 9), .ref (ad88 (1 + nd) 10), .ref (ad88 (1 + nd) 2), .ref (ad88 (1 + nd) 11), .ref (ad88 (1 + nd) 12), .ref (ad88 (1 + nd) 3), .ref (ad88 (1 + nd) 4), .int 0]) := (fE169 (1 + nd) 0 (by omega)).trans c_145
              have c_173 : E167 (1 + nd) 1 = .inr (8, [.ref (ad88 (1 + nd) 5), .int 0]) := (fE169 (1 + nd) 1 (by omega)).trans c_146
              have c_174 : E167 (1 + nd) 2 = .inr (8, [.ref (ad88 (1 + nd) 6), .int 0]) := (fE169 (1 + nd) 2 (by omega)).trans c_147
              have c_175 : E167 (1 + nd) 3 = .inr (8, [.ref (ad88 (1 + nd) 7), .int 0]) := (fE169 (1 + nd) 3 (by omega)).trans c_148
              have c_176 : E167 (1 + nd) 4 = .inr (8, [.ref (ad88 (1 + nd) 8), .int 0]) := (fE169 (1 + nd) 4 (by omega)).trans c_149
              have c_177 : E167 (1 + nd) 5 = .inl (kA 0, 6, .inl (fun _ => 0)) := (fE169 (1 + nd) 5 (by omega)).trans c_150
              have c_178 : E167 (1 + nd) 6 = .inl (kA 0, 5, .inl (fun _ => 0)) := (fE169 (1 + nd) 6 (by omega)).trans c_151
              have c_179 : E167 (1 + nd) 7 = .inl (kA 0, 3, .inl (fun _ => 0)) := (fE169 (1 + nd) 7 (by omega)).trans c_152
              have c_180 : E167 (1 + nd) 8 = .inl (kA 0, 3, .inl (fun _ => 0)) := (fE169 (1 + nd) 8 (by omega)).trans c_153
              have c_181 : E167 (1 + nd) 9 = .inl (kA 8, 6, .inr (.inr (.inr (.inr (fun _ => none))))) := (fE169 (1 + nd) 9 (by omega)).trans c_154
              have c_182 : E167 (1 + nd) 10 = .inl (kA 8, 6, .inr (.inr (.inr (.inr (fun _ => none))))) := (fE169 (1 + nd) 10 (by omega)).trans c_155
              have c_183 : E167 (1 + nd) 11 = .inl (kA 2, 5, .inl (fun _ => 0)) := (fE169 (1 + nd) 11 (by omega)).trans c_156
              have c_184 : E167 (1 + nd) 12 = .inl (kA 2, 5, .inl (fun _ => 0)) := (fE169 (1 + nd) 12 (by omega)).trans c_157
              have c_185 : E167 0 0 = .inr (0, [.ref (ad88 0 1), .ref (ad88 0 5), .ref (ad88 0 7), .ref (ad88 0 9), .int (nI ml), .int lf_1]) := (fE169 0 0 (by omega)).trans c_158
              have c_186 : E167 0 1 = .inr (1, [.ref (ad88 0 2), .ref (ad88 0 3), .ref (ad88 0 4), .int (nI len), .int (nI wn)]) := (fE169 0 1 (by omega)).trans c_159
              have c_187 : E167 0 2 = .inl (kA 1, 40, .inl tx_4) := (fE169 0 2 (by omega)).trans c_160
              have c_188 : E167 0 3 = .inl (kA 0, 20, .inl fb_4) := (fE169 0 3 (by omega)).trans c_161
              have c_189 : E167 0 4 = .inl (kA 0, 20, .inl fe_4) := (fE169 0 4 (by omega)).trans c_162
              have c_190 : E167 0 7 = .inr (3, [.ref (ad88 0 5), .ref (ad88 0 8), .int (nI cs), .int cf_18, pv_18]) := (fE169 0 7 (by omega)).trans c_164
              have c_191 : E167 0 8 = .inl (kA 4, 12, .inr (.inr (.inr (.inr fc_18)))) := (fE169 0 8 (by omega)).trans c_165
              have c_192 : E167 0 9 = .inl (kA 5, 5, .inr (.inr (.inr (.inr fl_23)))) := (fE169 0 9 (by omega)).trans c_166
              have hCI : CI kA ad88 E167 RL90 ml (nd + 1) len wn cs := ⟨(fun o9 h9 => p_106 _ (hs62 _ (hmB o9 h9))), ⟨lf_1, c_185⟩, ⟨tx_4, fb_4, fe_4, (by omega), (by omega), c_186, c_187, c_188, c_189, hws_4⟩, ⟨(va_up fd_13 nd (some (ad88 (1 + nd) 0))), (by omega), c_170, c_171, (DS_add hds_13 (fun d9 hd9 => by show ad88 (1 + d9) 0 = _; rw [p_105 (1 + d9) 0 (by omega) (by omega) (by omega) (by omega) (by omega) (by omega) (by omega) (by omega) (by omega) (by omega) (by omega) (by omega), fA61 (1 + d9) 0 (by omega)]))⟩, ⟨cf_18, pv_18, fc_18, (by omega), (PV_ad hpv_18 (fun n9 hn9 => by show ad88 (20 + n9) 0 = _; rw [p_105 (20 + n9) 0 (by omega) (by omega) (by omega) (by omega) (by omega) (by omega) (by omega) (by omega) (by omega) (by omega) (by omega) (by omega), fA61 (20 + n9) 0 (by omega)])), c_190, c_191, (FC_ad hfc_18 (fun d9 hd9 => by show ad88 (1 + d9) 0 = _; rw [p_105 (1 + d9) 0 (by omega) (by omega) (by omega) (by omega) (by omega) (by omega) (by omega) (by omega) (by omega) (by omega) (by omega) (by omega), fA61 (1 + d9) 0 (by omega)]) (by omega))⟩, ⟨fl_23, (by omega), c_192, (LA_ad hla_23 (fun n9 hn9 => by show ad88 (20 + n9) 0 = _; rw [p_105 (20 + n9) 0 (by omega) (by omega) (by omega) (by omega) (by omega) (by omega) (by omega) (by omega) (by omega) (by omega) (by omega) (by omega), fA61 (20 + n9) 0 (by omega)]))⟩, (DIs_add (fun d9 hd9 => fun2 fun o9 => by show E167 (1 + d9) o9 = _; rw [fE169 (1 + d9) o9 (by omega), fE143 (1 + d9) o9 (by omega), p_104 (1 + d9) o9 (by omega) (by omega) (by omega) (by omega) (by omega) (by omega) (by omega) (by omega) (by omega) (by omega) (by omega) (by omega) (by omega), fE60 (1 + d9) o9 (by omega)]) (fun d9 hd9 => fun2 fun o9 => by show ad88 (1 + d9) o9 = _; rw [p_105 (1 + d9) o9 (by omega) (by omega) (by omega) (by omega) (by omega) (by omega) (by omega) (by omega) (by omega) (by omega) (by omega) (by omega), fA61 (1 + d9) o9 (by omega)]) (fun _ h9 => p_106 _ (hs62 _ h9)) ⟨(fun o9 ho9 => by
          have ho8 : o9 = 0 ∨ o9 = 1 ∨ o9 = 2 ∨ o9 = 3 ∨ o9 = 4 ∨ o9 = 5 ∨ o9 = 6 ∨ o9 = 7 ∨ o9 = 8 ∨ o9 = 9 ∨ o9 = 10 ∨ o9 = 11 ∨ o9 = 12 := by omega
          rcases ho8 with rfl | rfl | rfl | rfl | rfl | rfl | rfl | rfl | rfl | rfl | rfl | rfl | rfl
          · exact m_130
          · exact p_107
          · exact p_108
          · exact p_109
          · exact p_110
          · exact p_111
          · exact p_112
          · exact p_113
          · exact p_114
          · exact p_115
          · exact p_116
          · exact p_117
          · exact p_118), 1, r42, 0, 0, 0, 0, 0, (fun _ => 0), (fun _ => 0), (fun _ => 0), (fun _ => 0), (fun _ => none), (fun _ => none), (fun _ => 0), (fun _ => 0), (by omega), (by omega), (by omega), (by omega), c_172, c_173, c_174, c_175, c_176, c_177, c_178, c_179, c_180, c_181, c_182, c_183, c_184, fun i9 hi9 => absurd hi9 (by omega)⟩ hDIs), (LIs_same (by omega) (fun n9 hn9 => fun2 fun o9 => by show E167 (20 + n9) o9 = _; rw [fE169 (20 + n9) o9 (by omega), fE143 (20 + n9) o9 (by omega), p_104 (20 + n9) o9 (by omega) (by omega) (by omega) (by omega) (by omega) (by omega) (by omega) (by omega) (by omega) (by omega) (by omega) (by omega) (by omega), fE60 (20 + n9) o9 (by omega)]) (fun n9 hn9 => fun2 fun o9 => by show ad88 (20 + n9) o9 = _; rw [p_105 (20 + n9) o9 (by omega) (by omega) (by omega) (by omega) (by omega) (by omega) (by omega) (by omega) (by omega) (by omega) (by omega) (by omega), fA61 (20 + n9) o9 (by omega)]) (fun d9 hd9 => by show ad88 (1 + d9) 0 = _; rw [p_105 (1 + d9) 0 (by omega) (by omega) (by omega) (by omega) (by omega) (by omega) (by omega) (by omega) (by omega) (by omega) (by omega) (by omega), fA61 (1 + d9) 0 (by omega)]) (fun _ h9 => p_106 _ (hs62 _ h9)) hLIs)⟩
              have hA00 : ad88 0 0 = ad 0 0 := by show ad88 0 0 = _; rw [p_105 0 0 (by omega) (by omega) (by omega) (by omega) (by omega) (by omega) (by omega) (by omega) (by omega) (by omega) (by omega) (by omega), fA61 0 0 (by omega)]
              obtain ⟨hmB, hDk, hLi, hSh, hCh, hLa, hDIs, hLIs⟩ := id hCI
              refine lv_iconst (v := 1) hx hb xd_Sh_acceptDescriptor_120 (by decide) ?_
              refine W.widen (k := 13) (n := 66) (Nat.le_of_ble_eq_true rfl) (Nat.le_of_ble_eq_true rfl) ?_
              exact W.iret (v := 1) hx hb hr (fun t ht hW => ⟨⟨1, (ad88, E167, RL90), rfl, ⟨⟨nd + 1, hCI⟩, hA00⟩, by rw [ht]; exact hP, hD⟩, hS.F ht⟩) hS.2.2 xd_Sh_acceptDescriptor_121
            · refine lv_bipush (v := (-2)) hx hb xd_Sh_acceptDescriptor_85 (by decide) ?_
              refine W.widen (k := 13) (n := 66) (Nat.le_of_ble_eq_true rfl) (Nat.le_of_ble_eq_true rfl) ?_
              exact W.iret (v := (-2)) hx hb hr (fun t ht hW => ⟨⟨(-2), (ad, E, RL), rfl, ⟨⟨nd, hCI⟩, rfl⟩, by rw [ht]; exact hP, hD⟩, hS.F ht⟩) hS.2.2 xd_Sh_acceptDescriptor_87
          · refine W.eq (g2 := F0 m 71 ls [.ref (ad (1 + z54) 0)]) rfl ?_
            refine lv_ifnull hx hb xd_Sh_acceptDescriptor_71 ?_
            refine lv_iconst (v := (-1)) hx hb xd_Sh_acceptDescriptor_74 (by decide) ?_
            refine W.widen (k := 13) (n := 66) (Nat.le_of_ble_eq_true rfl) (Nat.le_of_ble_eq_true rfl) ?_
            exact W.iret (v := (-1)) hx hb hr (fun t ht hW => ⟨⟨(-1), (ad, E, RL), rfl, ⟨⟨nd, hCI⟩, rfl⟩, by rw [ht]; exact hP, hD⟩, hS.F ht⟩) hS.2.2 xd_Sh_acceptDescriptor_75
  · refine W.eq (g2 := F0 m 7 ls [.int 1]) rfl ?_
    refine lv_if_eq (tgt := 14) hx hb xd_Sh_acceptDescriptor_7 (by decide) (fun hc193 => absurd hc193 (by decide)) (fun _ => ?_)
    refine lv_iconst (v := 0) hx hb xd_Sh_acceptDescriptor_10 (by decide) ?_
    refine lv_goto (tgt := 29) hx hb xd_Sh_acceptDescriptor_11 (by decide) ?_
    refine lv_istore_n hx hb xd_Sh_acceptDescriptor_29 rfl hl (Nat.le_of_ble_eq_true rfl) rfl (fun ls hl => ?_)
    have hl : lv_has ls 5 [(2, .int 0), (0, .ref (ad 0 5)), (1, .ref (ad 0 1))] := hl
    refine lv_aload_n hx hb xd_Sh_acceptDescriptor_30 rfl (lv_at hl 2 rfl) ?_
    refine lv_iconst (v := 2) hx hb xd_Sh_acceptDescriptor_31 (by decide) ?_
    have hFc := px_free hD hS hA
    refine va_calli (va_runV (As := [.int 2]) (rest := []) ⟨hx, hb, hml, hown, hT⟩ (xc_Li_nameAt l D kA H.size ad E RL ml nd len wn cs 2 (by first | assumption | omega)) (cwV 1 hT (wT_V yw_19 yw_20 yw_21 yw_17 yw_18) rfl rfl rfl (by decide +kernel) ⟨Nat.le_of_ble_eq_true rfl, Nat.le_of_ble_eq_true rfl⟩) (px_preV hK hP hD m_6 c_5 rfl) rfl rfl hl.1 rfl (lv_room (Nat.le_of_ble_eq_true rfl)) xd_Sh_acceptDescriptor_32 ⟨(Nat.le_of_ble_eq_true rfl), (Nat.le_of_ble_eq_true rfl)⟩) hS (fun q _ h => hFc q h) hFc (fun r194 u195 t H1 locs ht hvm hp196 hB hz1 hk1 hS => ?_)
    obtain ⟨hP1, hD1⟩ := hB
    rw [ht] at hP1
    have hD1 := hD1.weaken (fun _ _ _ h => hFc _ h)
    generalize H1 = H at hP1 hS ⊢
    have hP := hP1
    have hD := hD1
    have hP : va_P D xcl (rp ad E RL) H := hP
    have hD : va_D A (rp ad E RL) := hD
    refine lv_istore_n hx hb xd_Sh_acceptDescriptor_35 rfl hl (Nat.le_of_ble_eq_true rfl) rfl (fun ls hl => ?_)
    have hl : lv_has ls 5 [(3, .int r194), (2, .int 0), (0, .ref (ad 0 5)), (1, .ref (ad 0 1))] := hl
    refine lv_aload_n hx hb xd_Sh_acceptDescriptor_36 rfl (lv_at hl 3 rfl) ?_
    refine px_get (D := D) (ci := 1) (v := .int (nI wn)) (C := xR_Li) (T := xT_Li) (N := 5) hx hb hT xi_Li hown hK.1 hP m_6 c_5 rfl 4 (by decide) (hT _ yw_22) (fun _ h9 => h9) rfl xd_Sh_acceptDescriptor_37 ?_
    refine lv_iconst (v := 3) hx hb xd_Sh_acceptDescriptor_40 (by decide) ?_
    refine xn_ne (a := wn) (b := 3) (tgt := 57) hx hb xd_Sh_acceptDescriptor_41 (by decide) (by omega) (by omega) (fun hc197 => ?_) (fun hc197 => ?_)
    · refine lv_iconst (v := 0) hx hb xd_Sh_acceptDescriptor_57 (by decide) ?_
      refine lv_istore hx hb xd_Sh_acceptDescriptor_58 hl (Nat.le_of_ble_eq_true rfl) rfl (fun ls hl => ?_)
      have hl : lv_has ls 5 [(4, .int 0), (3, .int r194), (2, .int 0), (0, .ref (ad 0 5)), (1, .ref (ad 0 1))] := hl
      refine lv_iload hx hb xd_Sh_acceptDescriptor_60 (lv_at hl 0 rfl) ?_
      refine lv_if_eq (tgt := 74) hx hb xd_Sh_acceptDescriptor_62 (by decide) (fun _ => ?_) (fun hc198 => absurd (by decide) hc198)
      refine lv_iconst (v := (-1)) hx hb xd_Sh_acceptDescriptor_74 (by decide) ?_
      refine W.widen (k := 13) (n := 66) (Nat.le_of_ble_eq_true rfl) (Nat.le_of_ble_eq_true rfl) ?_
      exact W.iret (v := (-1)) hx hb hr (fun t ht hW => ⟨⟨(-1), (ad, E, RL), rfl, ⟨⟨nd, hCI⟩, rfl⟩, by rw [ht]; exact hP, hD⟩, hS.F ht⟩) hS.2.2 xd_Sh_acceptDescriptor_75
    · refine lv_iload_n hx hb xd_Sh_acceptDescriptor_44 rfl (lv_at hl 1 rfl) ?_
      refine lv_iconst (v := (-1)) hx hb xd_Sh_acceptDescriptor_45 (by decide) ?_
      refine lv_icmp_eq (tgt := 57) hx hb xd_Sh_acceptDescriptor_46 (by decide) (fun hc199 => absurd hc199 (by decide)) (fun _ => ?_)
      refine lv_iload_n hx hb xd_Sh_acceptDescriptor_49 rfl (lv_at hl 0 rfl) ?_
      refine lv_if_eq (tgt := 57) hx hb xd_Sh_acceptDescriptor_50 (by decide) (fun hc200 => ?_) (fun hc200 => ?_)
      · refine lv_iconst (v := 0) hx hb xd_Sh_acceptDescriptor_57 (by decide) ?_
        refine lv_istore hx hb xd_Sh_acceptDescriptor_58 hl (Nat.le_of_ble_eq_true rfl) rfl (fun ls hl => ?_)
        have hl : lv_has ls 5 [(4, .int 0), (3, .int r194), (2, .int 0), (0, .ref (ad 0 5)), (1, .ref (ad 0 1))] := hl
        refine lv_iload hx hb xd_Sh_acceptDescriptor_60 (lv_at hl 0 rfl) ?_
        refine lv_if_eq (tgt := 74) hx hb xd_Sh_acceptDescriptor_62 (by decide) (fun _ => ?_) (fun hc201 => absurd (by decide) hc201)
        refine lv_iconst (v := (-1)) hx hb xd_Sh_acceptDescriptor_74 (by decide) ?_
        refine W.widen (k := 13) (n := 66) (Nat.le_of_ble_eq_true rfl) (Nat.le_of_ble_eq_true rfl) ?_
        exact W.iret (v := (-1)) hx hb hr (fun t ht hW => ⟨⟨(-1), (ad, E, RL), rfl, ⟨⟨nd, hCI⟩, rfl⟩, by rw [ht]; exact hP, hD⟩, hS.F ht⟩) hS.2.2 xd_Sh_acceptDescriptor_75
      · refine lv_iconst (v := 1) hx hb xd_Sh_acceptDescriptor_53 (by decide) ?_
        refine lv_goto (tgt := 58) hx hb xd_Sh_acceptDescriptor_54 (by decide) ?_
        refine lv_istore hx hb xd_Sh_acceptDescriptor_58 hl (Nat.le_of_ble_eq_true rfl) rfl (fun ls hl => ?_)
        have hl : lv_has ls 5 [(4, .int 1), (3, .int r194), (2, .int 0), (0, .ref (ad 0 5)), (1, .ref (ad 0 1))] := hl
        refine lv_iload hx hb xd_Sh_acceptDescriptor_60 (lv_at hl 0 rfl) ?_
        refine lv_if_eq (tgt := 74) hx hb xd_Sh_acceptDescriptor_62 (by decide) (fun hc202 => absurd hc202 (by decide)) (fun _ => ?_)
        refine lv_aload_n hx hb xd_Sh_acceptDescriptor_65 rfl (lv_at hl 3 rfl) ?_
        refine lv_iload_n hx hb xd_Sh_acceptDescriptor_66 rfl (lv_at hl 2 rfl) ?_
        refine lv_iload_n hx hb xd_Sh_acceptDescriptor_67 rfl (lv_at hl 1 rfl) ?_
        have hFc := px_free hD hS hA
        refine va_callq (va_runV (As := [.int 0, .int r194]) (rest := []) ⟨hx, hb, hml, hown, hT⟩ (xc_Sh_find l D kA H.size ad E RL ml nd len wn cs 0 r194 (by first | assumption | omega)) (cwV 2 hT (wT_V yw_24 yw_25 yw_26 yw_27 yw_23) rfl rfl rfl (by decide +kernel) ⟨Nat.le_of_ble_eq_true rfl, Nat.le_of_ble_eq_true rfl⟩) (px_preV hK hP hD m_15 c_14 rfl) rfl rfl hl.1 rfl (lv_room (Nat.le_of_ble_eq_true rfl)) xd_Sh_acceptDescriptor_68 ⟨(Nat.le_of_ble_eq_true rfl), (Nat.le_of_ble_eq_true rfl)⟩) hS (fun q _ h => hFc q h) hFc (fun r203 u204 t H1 locs ht hvm hp205 hB hz1 hk1 hS => ?_)
        obtain ⟨hP1, hD1⟩ := hB
        rw [ht] at hP1
        have hD1 := hD1.weaken (fun _ _ _ h => hFc _ h)
        generalize H1 = H at hP1 hS ⊢
        have hP := hP1
        have hD := hD1
        have hP : va_P D xcl (rp ad E RL) H := hP
        have hD : va_D A (rp ad E RL) := hD
        rcases hp205 with rfl | ⟨z206, z207, rfl⟩
        · refine W.eq (g2 := F0 m 71 ls [.null]) rfl ?_
          refine lv_ifnullN (tgt := 76) hx hb xd_Sh_acceptDescriptor_71 (by decide) ?_
          refine lv_aload_n hx hb xd_Sh_acceptDescriptor_76 rfl (lv_at hl 3 rfl) ?_
          refine px_get (D := D) (ci := 2) (v := .int (nI nd)) (C := xR_Sh) (T := xT_Sh) (N := 2) hx hb hT xi_Sh hown hK.1 hP m_15 c_14 rfl 1 (by decide) (hT _ yw_28) (fun _ h9 => h9) rfl xd_Sh_acceptDescriptor_77 ?_
          refine lv_bipush (v := 12) hx hb xd_Sh_acceptDescriptor_80 (by decide) ?_
          refine xn_lt (a := nd) (b := 12) (tgt := 88) hx hb xd_Sh_acceptDescriptor_82 (by decide) (by omega) (by omega) (fun hc208 => ?_) (fun hc208 => ?_)
          · refine lv_aload_n hx hb xd_Sh_acceptDescriptor_88 rfl (lv_at hl 3 rfl) ?_
            refine px_get (D := D) (ci := 2) (v := .ref (ad 0 6)) (C := xR_Sh) (T := xT_Sh) (N := 2) hx hb hT xi_Sh hown hK.1 hP m_15 c_14 rfl 0 (by decide) (hT _ yw_29) (fun _ h9 => h9) rfl xd_Sh_acceptDescriptor_89 ?_
            refine lv_aload_n hx hb xd_Sh_acceptDescriptor_92 rfl (lv_at hl 3 rfl) ?_
            refine px_get (D := D) (ci := 2) (v := .int (nI nd)) (C := xR_Sh) (T := xT_Sh) (N := 2) hx hb hT xi_Sh hown hK.1 hP m_15 c_14 rfl 1 (by decide) (hT _ yw_28) (fun _ h9 => h9) rfl xd_Sh_acceptDescriptor_93 ?_
            refine px_new (ci := 7) (fs := [.int 0, .int 0, .int 0, .null, .null, .null, .null, .null, .null, .null, .null, .int 0]) (C := xR_Ds) (T := xT_Ds) (N := 12) (1 + nd) 0 hx hb hT xi_Ds xt_Ds xt_Ds_ok hown (hT _ yw_30) (hT _ yw_31) (hT _ yw_32) hK.1 hP hD hS hA rfl (by decide +kernel) (Nat.le_of_ble_eq_true rfl) (Nat.le_of_ble_eq_true rfl) xd_Sh_acceptDescriptor_96 (fun ad209 E210 RL211 H hA1 hE1 hs1 hm1 hP hD hS => ?_)
            have fE212 : ∀ b2 o2, ¬ (b2 = 1 + nd ∧ o2 = 0) → E210 b2 o2 = E b2 o2 := fun b2 o2 h9 => by rw [hE1]; exact up2_ne (by omega)
            have fA213 : ∀ b2 o2, ¬ (b2 = 1 + nd ∧ o2 = 0) → ad209 b2 o2 = ad b2 o2 := fun b2 o2 h9 => by rw [hA1]; exact up2_ne (by omega)
            have hs214 := hs1
            refine W.eq (g2 := F0 m _ ls [.ref (ad209 (1 + nd) 0), .int (nI nd), .ref (ad209 0 6)]) (by rw [fA213 0 6 (by omega)]) ?_
            have c_215 : E210 (1 + nd) 0 = .inr (7, [.int 0, .int 0, .int 0, .null, .null, .null, .null, .null, .null, .null, .null, .int 0]) := by rw [hE1]; exact up2_eq
            have hl : lv_has ls 5 [(4, .int 1), (3, .int r194), (2, .int 0), (0, .ref (ad209 0 5)), (1, .ref (ad209 0 1))] := by
              rw [fA213 0 5 (by omega), fA213 0 1 (by omega)]; exact hl
            have m_217 : (0, 0) ∈ RL211 := hs214 _ m_3
            have m_218 : (0, 1) ∈ RL211 := hs214 _ m_6
            have m_219 : (0, 2) ∈ RL211 := hs214 _ m_8
            have m_220 : (0, 3) ∈ RL211 := hs214 _ m_10
            have m_221 : (0, 4) ∈ RL211 := hs214 _ m_12
            have m_222 : (0, 5) ∈ RL211 := hs214 _ m_15
            have m_223 : (0, 6) ∈ RL211 := hs214 _ m_17
            have m_224 : (0, 7) ∈ RL211 := hs214 _ m_20
            have m_225 : (0, 8) ∈ RL211 := hs214 _ m_22
            have m_226 : (0, 9) ∈ RL211 := hs214 _ m_25
            have c_227 : E210 0 0 = .inr (0, [.ref (ad209 0 1), .ref (ad209 0 5), .ref (ad209 0 7), .ref (ad209 0 9), .int (nI ml), .int lf_1]) := by rw [fE212 0 0 (by omega), fA213 0 1 (by omega), fA213 0 5 (by omega), fA213 0 7 (by omega), fA213 0 9 (by omega)]; exact c_2
            have c_228 : E210 0 1 = .inr (1, [.ref (ad209 0 2), .ref (ad209 0 3), .ref (ad209 0 4), .int (nI len), .int (nI wn)]) := by rw [fE212 0 1 (by omega), fA213 0 2 (by omega), fA213 0 3 (by omega), fA213 0 4 (by omega)]; exact c_5
            have c_229 : E210 0 2 = .inl (kA 1, 40, .inl tx_4) := by rw [fE212 0 2 (by omega)]; exact c_7
            have c_230 : E210 0 3 = .inl (kA 0, 20, .inl fb_4) := by rw [fE212 0 3 (by omega)]; exact c_9
            have c_231 : E210 0 4 = .inl (kA 0, 20, .inl fe_4) := by rw [fE212 0 4 (by omega)]; exact c_11
            have c_232 : E210 0 5 = .inr (2, [.ref (ad209 0 6), .int (nI nd)]) := by rw [fE212 0 5 (by omega), fA213 0 6 (by omega)]; exact c_14
            have c_233 : E210 0 6 = .inl (kA 4, 12, .inr (.inr (.inr (.inr fd_13)))) := by rw [fE212 0 6 (by omega)]; exact c_16
            have c_234 : E210 0 7 = .inr (3, [.ref (ad209 0 5), .ref (ad209 0 8), .int (nI cs), .int cf_18, pv_18]) := by rw [fE212 0 7 (by omega), fA213 0 5 (by omega), fA213 0 8 (by omega)]; exact c_19
            have c_235 : E210 0 8 = .inl (kA 4, 12, .inr (.inr (.inr (.inr fc_18)))) := by rw [fE212 0 8 (by omega)]; exact c_21
            have c_236 : E210 0 9 = .inl (kA 5, 5, .inr (.inr (.inr (.inr fl_23)))) := by rw [fE212 0 9 (by omega)]; exact c_24
            have m_216 : (1 + nd, 0) ∈ RL211 := hm1
            have hP : va_P D xcl (rp ad209 E210 RL211) H := hP
            have hD : va_D A (rp ad209 E210 RL211) := hD
            refine lv_dup hx hb xd_Sh_acceptDescriptor_99 rfl ?_
            refine lv_aload_n hx hb xd_Sh_acceptDescriptor_100 rfl (lv_at hl 3 rfl) ?_
            refine px_get (D := D) (ci := 2) (v := .int (nI nd)) (C := xR_Sh) (T := xT_Sh) (N := 2) hx hb hT xi_Sh hown hK.1 hP m_222 c_232 rfl 1 (by decide) (hT _ yw_28) (fun _ h9 => h9) rfl xd_Sh_acceptDescriptor_101 ?_
            refine lv_iload_n hx hb xd_Sh_acceptDescriptor_104 rfl (lv_at hl 2 rfl) ?_
            refine lv_iload_n hx hb xd_Sh_acceptDescriptor_105 rfl (lv_at hl 1 rfl) ?_
            have hFc := px_free hD hS hA
            refine va_callv (va_runI (As := [.int (nI nd), .int 0, .int r194]) (rest := [.ref (ad209 (1 + nd) 0), .int (nI nd), .ref (ad209 0 6)]) ⟨hx, hb, hml, hown, hT⟩ (xc_Ds_init l D kA H.size ad209 E210 RL211 nd 0 r194 m_216 c_215) (cwI 3 hT (wT_I yw_33) rfl rfl rfl (hT _ yw_32) (hT _ yw_34) (hT _ yw_35) rfl (by decide +kernel) ⟨Nat.le_of_ble_eq_true rfl, Nat.le_of_ble_eq_true rfl⟩) (x_preS hK hP hD) rfl rfl hl.1 rfl (lv_room (Nat.le_of_ble_eq_true rfl)) xd_Sh_acceptDescriptor_106 ⟨(Nat.le_of_ble_eq_true rfl), (Nat.le_of_ble_eq_true rfl)⟩) hS (fun q _ h => hFc q h) hFc (fun u238 t H1 locs ht hvm hp239 hB hz1 hk1 hS => ?_)
            obtain ⟨hP1, hD1⟩ := hB
            rw [ht] at hP1
            have hD1 := hD1.weaken (fun _ _ _ h => hFc _ h)
            generalize H1 = H at hP1 hS ⊢
            have hP := hP1
            have hD := hD1
            obtain ⟨ad240, E241, RL242⟩ := u238
            obtain ⟨hp271, p_243, p_244, p_245, p_246, p_247, p_248, p_249, p_250, p_251, p_252, p_253, p_254, p_255, p_256, p_257, p_258, p_259, p_260, p_261, p_262, p_263, p_264, p_265, p_266, p_267, p_268, p_269, p_270⟩ := hp239
            have p_243 : E241 (1 + nd) 0 = .inr (7, [.int (nI nd), .int 0, .int r194, .ref (ad240 (1 + nd) 1), .ref (ad240 (1 + nd) 9), .ref (ad240 (1 + nd) 10), .ref (ad240 (1 + nd) 2), .ref (ad240 (1 + nd) 11), .ref (ad240 (1 + nd) 12), .ref (ad240 (1 + nd) 3), .ref (ad240 (1 + nd) 4), .int 0]) := p_243
            have p_244 : E241 (1 + nd) 1 = .inr (8, [.ref (ad240 (1 + nd) 5), .int 0]) := p_244
            have p_245 : E241 (1 + nd) 2 = .inr (8, [.ref (ad240 (1 + nd) 6), .int 0]) := p_245
            have p_246 : E241 (1 + nd) 3 = .inr (8, [.ref (ad240 (1 + nd) 7), .int 0]) := p_246
            have p_247 : E241 (1 + nd) 4 = .inr (8, [.ref (ad240 (1 + nd) 8), .int 0]) := p_247
            have p_248 : E241 (1 + nd) 5 = .inl (kA 0, 6, .inl (fun _ => 0)) := p_248
            have p_249 : E241 (1 + nd) 6 = .inl (kA 0, 5, .inl (fun _ => 0)) := p_249
            have p_250 : E241 (1 + nd) 7 = .inl (kA 0, 3, .inl (fun _ => 0)) := p_250
            have p_251 : E241 (1 + nd) 8 = .inl (kA 0, 3, .inl (fun _ => 0)) := p_251
            have p_252 : E241 (1 + nd) 9 = .inl (kA 8, 6, .inr (.inr (.inr (.inr (fun _ => none))))) := p_252
            have p_253 : E241 (1 + nd) 10 = .inl (kA 8, 6, .inr (.inr (.inr (.inr (fun _ => none))))) := p_253
            have p_254 : E241 (1 + nd) 11 = .inl (kA 2, 5, .inl (fun _ => 0)) := p_254
            have p_255 : E241 (1 + nd) 12 = .inl (kA 2, 5, .inl (fun _ => 0)) := p_255
            have p_256 : (∀ b2 o2, ¬ (b2 = 1 + nd ∧ o2 = 0) → ¬ (b2 = 1 + nd ∧ o2 = 1) → ¬ (b2 = 1 + nd ∧ o2 = 2) → ¬ (b2 = 1 + nd ∧ o2 = 3) → ¬ (b2 = 1 + nd ∧ o2 = 4) → ¬ (b2 = 1 + nd ∧ o2 = 5) → ¬ (b2 = 1 + nd ∧ o2 = 6) → ¬ (b2 = 1 + nd ∧ o2 = 7) → ¬ (b2 = 1 + nd ∧ o2 = 8) → ¬ (b2 = 1 + nd ∧ o2 = 9) → ¬ (b2 = 1 + nd ∧ o2 = 10) → ¬ (b2 = 1 + nd ∧ o2 = 11) → ¬ (b2 = 1 + nd ∧ o2 = 12) → E241 b2 o2 = E210 b2 o2) := p_256
            have p_257 : (∀ b2 o2, ¬ (b2 = 1 + nd ∧ o2 = 1) → ¬ (b2 = 1 + nd ∧ o2 = 2) → ¬ (b2 = 1 + nd ∧ o2 = 3) → ¬ (b2 = 1 + nd ∧ o2 = 4) → ¬ (b2 = 1 + nd ∧ o2 = 5) → ¬ (b2 = 1 + nd ∧ o2 = 6) → ¬ (b2 = 1 + nd ∧ o2 = 7) → ¬ (b2 = 1 + nd ∧ o2 = 8) → ¬ (b2 = 1 + nd ∧ o2 = 9) → ¬ (b2 = 1 + nd ∧ o2 = 10) → ¬ (b2 = 1 + nd ∧ o2 = 11) → ¬ (b2 = 1 + nd ∧ o2 = 12) → ad240 b2 o2 = ad209 b2 o2) := p_257
            have p_258 : (∀ x ∈ RL211, x ∈ RL242) := p_258
            have p_259 : (1 + nd, 1) ∈ RL242 := p_259
            have p_260 : (1 + nd, 2) ∈ RL242 := p_260
            have p_261 : (1 + nd, 3) ∈ RL242 := p_261
            have p_262 : (1 + nd, 4) ∈ RL242 := p_262
            have p_263 : (1 + nd, 5) ∈ RL242 := p_263
            have p_264 : (1 + nd, 6) ∈ RL242 := p_264
            have p_265 : (1 + nd, 7) ∈ RL242 := p_265
            have p_266 : (1 + nd, 8) ∈ RL242 := p_266
            have p_267 : (1 + nd, 9) ∈ RL242 := p_267
            have p_268 : (1 + nd, 10) ∈ RL242 := p_268
            have p_269 : (1 + nd, 11) ∈ RL242 := p_269
            have p_270 : (1 + nd, 12) ∈ RL242 := p_270
            refine W.eq (g2 := F0 m 109 ls [.ref (ad240 (1 + nd) 0), .int (nI nd), .ref (ad240 0 6)]) (by rw [p_257 (1 + nd) 0 (by omega) (by omega) (by omega) (by omega) (by omega) (by omega) (by omega) (by omega) (by omega) (by omega) (by omega) (by omega), p_257 0 6 (by omega) (by omega) (by omega) (by omega) (by omega) (by omega) (by omega) (by omega) (by omega) (by omega) (by omega) (by omega)]) ?_
            have hl : lv_has ls 5 [(4, .int 1), (3, .int r194), (2, .int 0), (0, .ref (ad240 0 5)), (1, .ref (ad240 0 1))] := by
              rw [p_257 0 5 (by omega) (by omega) (by omega) (by omega) (by omega) (by omega) (by omega) (by omega) (by omega) (by omega) (by omega) (by omega), p_257 0 1 (by omega) (by omega) (by omega) (by omega) (by omega) (by omega) (by omega) (by omega) (by omega) (by omega) (by omega) (by omega)]; exact hl
            have m_272 : (0, 0) ∈ RL242 := p_258 _ m_217
            have m_273 : (0, 1) ∈ RL242 := p_258 _ m_218
            have m_274 : (0, 2) ∈ RL242 := p_258 _ m_219
            have m_275 : (0, 3) ∈ RL242 := p_258 _ m_220
            have m_276 : (0, 4) ∈ RL242 := p_258 _ m_221
            have m_277 : (0, 5) ∈ RL242 := p_258 _ m_222
            have m_278 : (0, 6) ∈ RL242 := p_258 _ m_223
            have m_279 : (0, 7) ∈ RL242 := p_258 _ m_224
            have m_280 : (0, 8) ∈ RL242 := p_258 _ m_225
            have m_281 : (0, 9) ∈ RL242 := p_258 _ m_226
            have m_282 : (1 + nd, 0) ∈ RL242 := p_258 _ m_216
            have c_283 : E241 0 0 = .inr (0, [.ref (ad240 0 1), .ref (ad240 0 5), .ref (ad240 0 7), .ref (ad240 0 9), .int (nI ml), .int lf_1]) := by rw [p_256 0 0 (by omega) (by omega) (by omega) (by omega) (by omega) (by omega) (by omega) (by omega) (by omega) (by omega) (by omega) (by omega) (by omega), p_257 0 1 (by omega) (by omega) (by omega) (by omega) (by omega) (by omega) (by omega) (by omega) (by omega) (by omega) (by omega) (by omega), p_257 0 5 (by omega) (by omega) (by omega) (by omega) (by omega) (by omega) (by omega) (by omega) (by omega) (by omega) (by omega) (by omega), p_257 0 7 (by omega) (by omega) (by omega) (by omega) (by omega) (by omega) (by omega) (by omega) (by omega) (by omega) (by omega) (by omega), p_257 0 9 (by omega) (by omega) (by omega) (by omega) (by omega) (by omega) (by omega) (by omega) (by omega) (by omega) (by omega) (by omega)]; exact c_227
            have c_284 : E241 0 1 = .inr (1, [.ref (ad240 0 2), .ref (ad240 0 3), .ref (ad240 0 4), .int (nI len), .int (nI wn)]) := by rw [p_256 0 1 (by omega) (by omega) (by omega) (by omega) (by omega) (by omega) (by omega) (by omega) (by omega) (by omega) (by omega) (by omega) (by omega), p_257 0 2 (by omega) (by omega) (by omega) (by omega) (by omega) (by omega) (by omega) (by omega) (by omega) (by omega) (by omega) (by omega), p_257 0 3 (by omega) (by omega) (by omega) (by omega) (by omega) (by omega) (by omega) (by omega) (by omega) (by omega) (by omega) (by omega), p_257 0 4 (by omega) (by omega) (by omega) (by omega) (by omega) (by omega) (by omega) (by omega) (by omega) (by omega) (by omega) (by omega)]; exact c_228
            have c_285 : E241 0 2 = .inl (kA 1, 40, .inl tx_4) := by rw [p_256 0 2 (by omega) (by omega) (by omega) (by omega) (by omega) (by omega) (by omega) (by omega) (by omega) (by omega) (by omega) (by omega) (by omega)]; exact c_229
            have c_286 : E241 0 3 = .inl (kA 0, 20, .inl fb_4) := by rw [p_256 0 3 (by omega) (by omega) (by omega) (by omega) (by omega) (by omega) (by omega) (by omega) (by omega) (by omega) (by omega) (by omega) (by omega)]; exact c_230
            have c_287 : E241 0 4 = .inl (kA 0, 20, .inl fe_4) := by rw [p_256 0 4 (by omega) (by omega) (by omega) (by omega) (by omega) (by omega) (by omega) (by omega) (by omega) (by omega) (by omega) (by omega) (by omega)]; exact c_231
            have c_288 : E241 0 5 = .inr (2, [.ref (ad240 0 6), .int (nI nd)]) := by rw [p_256 0 5 (by omega) (by omega) (by omega) (by omega) (by omega) (by omega) (by omega) (by omega) (by omega) (by omega) (by omega) (by omega) (by omega), p_257 0 6 (by omega) (by omega) (by omega) (by omega) (by omega) (by omega) (by omega) (by omega) (by omega) (by omega) (by omega) (by omega)]; exact c_232
            have c_289 : E241 0 6 = .inl (kA 4, 12, .inr (.inr (.inr (.inr fd_13)))) := by rw [p_256 0 6 (by omega) (by omega) (by omega) (by omega) (by omega) (by omega) (by omega) (by omega) (by omega) (by omega) (by omega) (by omega) (by omega)]; exact c_233
            have c_290 : E241 0 7 = .inr (3, [.ref (ad240 0 5), .ref (ad240 0 8), .int (nI cs), .int cf_18, pv_18]) := by rw [p_256 0 7 (by omega) (by omega) (by omega) (by omega) (by omega) (by omega) (by omega) (by omega) (by omega) (by omega) (by omega) (by omega) (by omega), p_257 0 5 (by omega) (by omega) (by omega) (by omega) (by omega) (by omega) (by omega) (by omega) (by omega) (by omega) (by omega) (by omega), p_257 0 8 (by omega) (by omega) (by omega) (by omega) (by omega) (by omega) (by omega) (by omega) (by omega) (by omega) (by omega) (by omega)]; exact c_234
            have c_291 : E241 0 8 = .inl (kA 4, 12, .inr (.inr (.inr (.inr fc_18)))) := by rw [p_256 0 8 (by omega) (by omega) (by omega) (by omega) (by omega) (by omega) (by omega) (by omega) (by omega) (by omega) (by omega) (by omega) (by omega)]; exact c_235
            have c_292 : E241 0 9 = .inl (kA 5, 5, .inr (.inr (.inr (.inr fl_23)))) := by rw [p_256 0 9 (by omega) (by omega) (by omega) (by omega) (by omega) (by omega) (by omega) (by omega) (by omega) (by omega) (by omega) (by omega) (by omega)]; exact c_236
            have hP : va_P D xcl (rp ad240 E241 RL242) H := hP
            have hD : va_D A (rp ad240 E241 RL242) := hD
            refine px_aast (i := nd) (r := (xR_Ds, xT_Ds, 12)) hx hb hK.1 hP hD hS m_278 c_289 4 rfl m_282 p_243 rfl (by omega) (by decide) xd_Sh_acceptDescriptor_109 (fun H locs hP hD hS => ?_)
            have hP : va_P D xcl (rp ad240 (up2 E241 0 6 (.inl (kA 4, 12, .inr (.inr (.inr (.inr (va_up fd_13 nd (some (ad240 (1 + nd) 0))))))))) RL242) H := hP
            have hD : va_D A (rp ad240 (up2 E241 0 6 (.inl (kA 4, 12, .inr (.inr (.inr (.inr (va_up fd_13 nd (some (ad240 (1 + nd) 0))))))))) RL242) := hD
            generalize hE294 : up2 E241 0 6 (.inl (kA 4, 12, .inr (.inr (.inr (.inr (va_up fd_13 nd (some (ad240 (1 + nd) 0)))))))) = E293 at hP hD
            have fE295 : ∀ b2 o2, ¬ (b2 = 0 ∧ o2 = 6) → E293 b2 o2 = E241 b2 o2 := fun b2 o2 h9 => by rw [← hE294]; exact up2_ne (by omega)
            have c_296 : E293 0 6 = .inl (kA 4, 12, .inr (.inr (.inr (.inr (va_up fd_13 nd (some (ad240 (1 + nd) 0))))))) := by rw [← hE294]; exact up2_eq
            have c_297 : E293 (1 + nd) 0 = .inr (7, [.int (nI nd), .int 0, .int r194, .ref (ad240 (1 + nd) 1), .ref (ad240 (1 + nd) 9), .ref (ad240 (1 + nd) 10), .ref (ad240 (1 + nd) 2), .ref (ad240 (1 + nd) 11), .ref (ad240 (1 + nd) 12), .ref (ad240 (1 + nd) 3), .ref (ad240 (1 + nd) 4), .int 0]) := (fE295 (1 + nd) 0 (by omega)).trans p_243
            have c_298 : E293 (1 + nd) 1 = .inr (8, [.ref (ad240 (1 + nd) 5), .int 0]) := (fE295 (1 + nd) 1 (by omega)).trans p_244
            have c_299 : E293 (1 + nd) 2 = .inr (8, [.ref (ad240 (1 + nd) 6), .int 0]) := (fE295 (1 + nd) 2 (by omega)).trans p_245
            have c_300 : E293 (1 + nd) 3 = .inr (8, [.ref (ad240 (1 + nd) 7), .int 0]) := (fE295 (1 + nd) 3 (by omega)).trans p_246
            have c_301 : E293 (1 + nd) 4 = .inr (8, [.ref (ad240 (1 + nd) 8), .int 0]) := (fE295 (1 + nd) 4 (by omega)).trans p_247
            have c_302 : E293 (1 + nd) 5 = .inl (kA 0, 6, .inl (fun _ => 0)) := (fE295 (1 + nd) 5 (by omega)).trans p_248
            have c_303 : E293 (1 + nd) 6 = .inl (kA 0, 5, .inl (fun _ => 0)) := (fE295 (1 + nd) 6 (by omega)).trans p_249
            have c_304 : E293 (1 + nd) 7 = .inl (kA 0, 3, .inl (fun _ => 0)) := (fE295 (1 + nd) 7 (by omega)).trans p_250
            have c_305 : E293 (1 + nd) 8 = .inl (kA 0, 3, .inl (fun _ => 0)) := (fE295 (1 + nd) 8 (by omega)).trans p_251
            have c_306 : E293 (1 + nd) 9 = .inl (kA 8, 6, .inr (.inr (.inr (.inr (fun _ => none))))) := (fE295 (1 + nd) 9 (by omega)).trans p_252
            have c_307 : E293 (1 + nd) 10 = .inl (kA 8, 6, .inr (.inr (.inr (.inr (fun _ => none))))) := (fE295 (1 + nd) 10 (by omega)).trans p_253
            have c_308 : E293 (1 + nd) 11 = .inl (kA 2, 5, .inl (fun _ => 0)) := (fE295 (1 + nd) 11 (by omega)).trans p_254
            have c_309 : E293 (1 + nd) 12 = .inl (kA 2, 5, .inl (fun _ => 0)) := (fE295 (1 + nd) 12 (by omega)).trans p_255
            have c_310 : E293 0 0 = .inr (0, [.ref (ad240 0 1), .ref (ad240 0 5), .ref (ad240 0 7), .ref (ad240 0 9), .int (nI ml), .int lf_1]) := (fE295 0 0 (by omega)).trans c_283
            have c_311 : E293 0 1 = .inr (1, [.ref (ad240 0 2), .ref (ad240 0 3), .ref (ad240 0 4), .int (nI len), .int (nI wn)]) := (fE295 0 1 (by omega)).trans c_284
            have c_312 : E293 0 2 = .inl (kA 1, 40, .inl tx_4) := (fE295 0 2 (by omega)).trans c_285
            have c_313 : E293 0 3 = .inl (kA 0, 20, .inl fb_4) := (fE295 0 3 (by omega)).trans c_286
            have c_314 : E293 0 4 = .inl (kA 0, 20, .inl fe_4) := (fE295 0 4 (by omega)).trans c_287
            have c_315 : E293 0 5 = .inr (2, [.ref (ad240 0 6), .int (nI nd)]) := (fE295 0 5 (by omega)).trans c_288
            have c_316 : E293 0 7 = .inr (3, [.ref (ad240 0 5), .ref (ad240 0 8), .int (nI cs), .int cf_18, pv_18]) := (fE295 0 7 (by omega)).trans c_290
            have c_317 : E293 0 8 = .inl (kA 4, 12, .inr (.inr (.inr (.inr fc_18)))) := (fE295 0 8 (by omega)).trans c_291
            have c_318 : E293 0 9 = .inl (kA 5, 5, .inr (.inr (.inr (.inr fl_23)))) := (fE295 0 9 (by omega)).trans c_292
            refine lv_aload_n hx hb xd_Sh_acceptDescriptor_110 rfl (lv_at hl 3 rfl) ?_
            refine lv_dup hx hb xd_Sh_acceptDescriptor_111 rfl ?_
            refine px_get (D := D) (ci := 2) (v := .int (nI nd)) (C := xR_Sh) (T := xT_Sh) (N := 2) hx hb hT xi_Sh hown hK.1 hP m_277 c_315 rfl 1 (by decide) (hT _ yw_28) (fun _ h9 => h9) rfl xd_Sh_acceptDescriptor_112 ?_
            refine lv_iconst (v := 1) hx hb xd_Sh_acceptDescriptor_115 (by decide) ?_
            refine lv_iadd hx hb xd_Sh_acceptDescriptor_116 ?_
            refine xn_top (y := nI (nd + 1)) (nI_add nd 1) ?_
            refine px_put (D := D) (ci := 2) (v := .int (nI (nd + 1))) (ty := .int) (C := xR_Sh) (T := xT_Sh) (N := 2) hx hb hT xi_Sh xt_Sh xt_Sh_ok xn_Sh hown hK.1 hP hD hS m_277 c_315 rfl 1 (by decide) (hT _ yw_28) (fun _ h9 => h9) rfl (by decide +kernel) rfl rfl (Nat.le_of_ble_eq_true rfl) xd_Sh_acceptDescriptor_117 (fun H locs hP hD hS => ?_)
            have hP : va_P D xcl (rp ad240 (up2 E293 0 5 (.inr (2, [.ref (ad240 0 6), .int (nI (nd + 1))]))) RL242) H := hP
            have hD : va_D A (rp ad240 (up2 E293 0 5 (.inr (2, [.ref (ad240 0 6), .int (nI (nd + 1))]))) RL242) := hD
            generalize hE320 : up2 E293 0 5 (.inr (2, [.ref (ad240 0 6), .int (nI (nd + 1))])) = E319 at hP hD
            have fE321 : ∀ b2 o2, ¬ (b2 = 0 ∧ o2 = 5) → E319 b2 o2 = E293 b2 o2 := fun b2 o2 h9 => by rw [← hE320]; exact up2_ne (by omega)
            have c_322 : E319 0 5 = .inr (2, [.ref (ad240 0 6), .int (nI (nd + 1))]) := by rw [← hE320]; exact up2_eq
            have c_323 : E319 0 6 = .inl (kA 4, 12, .inr (.inr (.inr (.inr (va_up fd_13 nd (some (ad240 (1 + nd) 0))))))) := (fE321 0 6 (by omega)).trans c_296
            have c_324 : E319 (1 + nd) 0 = .inr (7, [.int (nI nd), .int 0, .int r194, .ref (ad240 (1 + nd) 1), .ref (ad240 (1 + nd) 9), .ref (ad240 (1 + nd) 10), .ref (ad240 (1 + nd) 2), .ref (ad240 (1 + nd) 11), .ref (ad240 (1 + nd) 12), .ref (ad240 (1 + nd) 3), .ref (ad240 (1 + nd) 4), .int 0]) := (fE321 (1 + nd) 0 (by omega)).trans c_297
            have c_325 : E319 (1 + nd) 1 = .inr (8, [.ref (ad240 (1 + nd) 5), .int 0]) := (fE321 (1 + nd) 1 (by omega)).trans c_298
            have c_326 : E319 (1 + nd) 2 = .inr (8, [.ref (ad240 (1 + nd) 6), .int 0]) := (fE321 (1 + nd) 2 (by omega)).trans c_299
            have c_327 : E319 (1 + nd) 3 = .inr (8, [.ref (ad240 (1 + nd) 7), .int 0]) := (fE321 (1 + nd) 3 (by omega)).trans c_300
            have c_328 : E319 (1 + nd) 4 = .inr (8, [.ref (ad240 (1 + nd) 8), .int 0]) := (fE321 (1 + nd) 4 (by omega)).trans c_301
            have c_329 : E319 (1 + nd) 5 = .inl (kA 0, 6, .inl (fun _ => 0)) := (fE321 (1 + nd) 5 (by omega)).trans c_302
            have c_330 : E319 (1 + nd) 6 = .inl (kA 0, 5, .inl (fun _ => 0)) := (fE321 (1 + nd) 6 (by omega)).trans c_303
            have c_331 : E319 (1 + nd) 7 = .inl (kA 0, 3, .inl (fun _ => 0)) := (fE321 (1 + nd) 7 (by omega)).trans c_304
            have c_332 : E319 (1 + nd) 8 = .inl (kA 0, 3, .inl (fun _ => 0)) := (fE321 (1 + nd) 8 (by omega)).trans c_305
            have c_333 : E319 (1 + nd) 9 = .inl (kA 8, 6, .inr (.inr (.inr (.inr (fun _ => none))))) := (fE321 (1 + nd) 9 (by omega)).trans c_306
            have c_334 : E319 (1 + nd) 10 = .inl (kA 8, 6, .inr (.inr (.inr (.inr (fun _ => none))))) := (fE321 (1 + nd) 10 (by omega)).trans c_307
            have c_335 : E319 (1 + nd) 11 = .inl (kA 2, 5, .inl (fun _ => 0)) := (fE321 (1 + nd) 11 (by omega)).trans c_308
            have c_336 : E319 (1 + nd) 12 = .inl (kA 2, 5, .inl (fun _ => 0)) := (fE321 (1 + nd) 12 (by omega)).trans c_309
            have c_337 : E319 0 0 = .inr (0, [.ref (ad240 0 1), .ref (ad240 0 5), .ref (ad240 0 7), .ref (ad240 0 9), .int (nI ml), .int lf_1]) := (fE321 0 0 (by omega)).trans c_310
            have c_338 : E319 0 1 = .inr (1, [.ref (ad240 0 2), .ref (ad240 0 3), .ref (ad240 0 4), .int (nI len), .int (nI wn)]) := (fE321 0 1 (by omega)).trans c_311
            have c_339 : E319 0 2 = .inl (kA 1, 40, .inl tx_4) := (fE321 0 2 (by omega)).trans c_312
            have c_340 : E319 0 3 = .inl (kA 0, 20, .inl fb_4) := (fE321 0 3 (by omega)).trans c_313
            have c_341 : E319 0 4 = .inl (kA 0, 20, .inl fe_4) := (fE321 0 4 (by omega)).trans c_314
            have c_342 : E319 0 7 = .inr (3, [.ref (ad240 0 5), .ref (ad240 0 8), .int (nI cs), .int cf_18, pv_18]) := (fE321 0 7 (by omega)).trans c_316
            have c_343 : E319 0 8 = .inl (kA 4, 12, .inr (.inr (.inr (.inr fc_18)))) := (fE321 0 8 (by omega)).trans c_317
            have c_344 : E319 0 9 = .inl (kA 5, 5, .inr (.inr (.inr (.inr fl_23)))) := (fE321 0 9 (by omega)).trans c_318
            have hCI : CI kA ad240 E319 RL242 ml (nd + 1) len wn cs := ⟨(fun o9 h9 => p_258 _ (hs214 _ (hmB o9 h9))), ⟨lf_1, c_337⟩, ⟨tx_4, fb_4, fe_4, (by omega), (by omega), c_338, c_339, c_340, c_341, hws_4⟩, ⟨(va_up fd_13 nd (some (ad240 (1 + nd) 0))), (by omega), c_322, c_323, (DS_add hds_13 (fun d9 hd9 => by show ad240 (1 + d9) 0 = _; rw [p_257 (1 + d9) 0 (by omega) (by omega) (by omega) (by omega) (by omega) (by omega) (by omega) (by omega) (by omega) (by omega) (by omega) (by omega), fA213 (1 + d9) 0 (by omega)]))⟩, ⟨cf_18, pv_18, fc_18, (by omega), (PV_ad hpv_18 (fun n9 hn9 => by show ad240 (20 + n9) 0 = _; rw [p_257 (20 + n9) 0 (by omega) (by omega) (by omega) (by omega) (by omega) (by omega) (by omega) (by omega) (by omega) (by omega) (by omega) (by omega), fA213 (20 + n9) 0 (by omega)])), c_342, c_343, (FC_ad hfc_18 (fun d9 hd9 => by show ad240 (1 + d9) 0 = _; rw [p_257 (1 + d9) 0 (by omega) (by omega) (by omega) (by omega) (by omega) (by omega) (by omega) (by omega) (by omega) (by omega) (by omega) (by omega), fA213 (1 + d9) 0 (by omega)]) (by omega))⟩, ⟨fl_23, (by omega), c_344, (LA_ad hla_23 (fun n9 hn9 => by show ad240 (20 + n9) 0 = _; rw [p_257 (20 + n9) 0 (by omega) (by omega) (by omega) (by omega) (by omega) (by omega) (by omega) (by omega) (by omega) (by omega) (by omega) (by omega), fA213 (20 + n9) 0 (by omega)]))⟩, (DIs_add (fun d9 hd9 => fun2 fun o9 => by show E319 (1 + d9) o9 = _; rw [fE321 (1 + d9) o9 (by omega), fE295 (1 + d9) o9 (by omega), p_256 (1 + d9) o9 (by omega) (by omega) (by omega) (by omega) (by omega) (by omega) (by omega) (by omega) (by omega) (by omega) (by omega) (by omega) (by omega), fE212 (1 + d9) o9 (by omega)]) (fun d9 hd9 => fun2 fun o9 => by show ad240 (1 + d9) o9 = _; rw [p_257 (1 + d9) o9 (by omega) (by omega) (by omega) (by omega) (by omega) (by omega) (by omega) (by omega) (by omega) (by omega) (by omega) (by omega), fA213 (1 + d9) o9 (by omega)]) (fun _ h9 => p_258 _ (hs214 _ h9)) ⟨(fun o9 ho9 => by
          have ho8 : o9 = 0 ∨ o9 = 1 ∨ o9 = 2 ∨ o9 = 3 ∨ o9 = 4 ∨ o9 = 5 ∨ o9 = 6 ∨ o9 = 7 ∨ o9 = 8 ∨ o9 = 9 ∨ o9 = 10 ∨ o9 = 11 ∨ o9 = 12 := by omega
          rcases ho8 with rfl | rfl | rfl | rfl | rfl | rfl | rfl | rfl | rfl | rfl | rfl | rfl | rfl
          · exact m_282
          · exact p_259
          · exact p_260
          · exact p_261
          · exact p_262
          · exact p_263
          · exact p_264
          · exact p_265
          · exact p_266
          · exact p_267
          · exact p_268
          · exact p_269
          · exact p_270), 0, r194, 0, 0, 0, 0, 0, (fun _ => 0), (fun _ => 0), (fun _ => 0), (fun _ => 0), (fun _ => none), (fun _ => none), (fun _ => 0), (fun _ => 0), (by omega), (by omega), (by omega), (by omega), c_324, c_325, c_326, c_327, c_328, c_329, c_330, c_331, c_332, c_333, c_334, c_335, c_336, fun i9 hi9 => absurd hi9 (by omega)⟩ hDIs), (LIs_same (by omega) (fun n9 hn9 => fun2 fun o9 => by show E319 (20 + n9) o9 = _; rw [fE321 (20 + n9) o9 (by omega), fE295 (20 + n9) o9 (by omega), p_256 (20 + n9) o9 (by omega) (by omega) (by omega) (by omega) (by omega) (by omega) (by omega) (by omega) (by omega) (by omega) (by omega) (by omega) (by omega), fE212 (20 + n9) o9 (by omega)]) (fun n9 hn9 => fun2 fun o9 => by show ad240 (20 + n9) o9 = _; rw [p_257 (20 + n9) o9 (by omega) (by omega) (by omega) (by omega) (by omega) (by omega) (by omega) (by omega) (by omega) (by omega) (by omega) (by omega), fA213 (20 + n9) o9 (by omega)]) (fun d9 hd9 => by show ad240 (1 + d9) 0 = _; rw [p_257 (1 + d9) 0 (by omega) (by omega) (by omega) (by omega) (by omega) (by omega) (by omega) (by omega) (by omega) (by omega) (by omega) (by omega), fA213 (1 + d9) 0 (by omega)]) (fun _ h9 => p_258 _ (hs214 _ h9)) hLIs)⟩
            have hA00 : ad240 0 0 = ad 0 0 := by show ad240 0 0 = _; rw [p_257 0 0 (by omega) (by omega) (by omega) (by omega) (by omega) (by omega) (by omega) (by omega) (by omega) (by omega) (by omega) (by omega), fA213 0 0 (by omega)]
            obtain ⟨hmB, hDk, hLi, hSh, hCh, hLa, hDIs, hLIs⟩ := id hCI
            refine lv_iconst (v := 1) hx hb xd_Sh_acceptDescriptor_120 (by decide) ?_
            refine W.widen (k := 13) (n := 66) (Nat.le_of_ble_eq_true rfl) (Nat.le_of_ble_eq_true rfl) ?_
            exact W.iret (v := 1) hx hb hr (fun t ht hW => ⟨⟨1, (ad240, E319, RL242), rfl, ⟨⟨nd + 1, hCI⟩, hA00⟩, by rw [ht]; exact hP, hD⟩, hS.F ht⟩) hS.2.2 xd_Sh_acceptDescriptor_121
          · refine lv_bipush (v := (-2)) hx hb xd_Sh_acceptDescriptor_85 (by decide) ?_
            refine W.widen (k := 13) (n := 66) (Nat.le_of_ble_eq_true rfl) (Nat.le_of_ble_eq_true rfl) ?_
            exact W.iret (v := (-2)) hx hb hr (fun t ht hW => ⟨⟨(-2), (ad, E, RL), rfl, ⟨⟨nd, hCI⟩, rfl⟩, by rw [ht]; exact hP, hD⟩, hS.F ht⟩) hS.2.2 xd_Sh_acceptDescriptor_87
        · refine W.eq (g2 := F0 m 71 ls [.ref (ad (1 + z206) 0)]) rfl ?_
          refine lv_ifnull hx hb xd_Sh_acceptDescriptor_71 ?_
          refine lv_iconst (v := (-1)) hx hb xd_Sh_acceptDescriptor_74 (by decide) ?_
          refine W.widen (k := 13) (n := 66) (Nat.le_of_ble_eq_true rfl) (Nat.le_of_ble_eq_true rfl) ?_
          exact W.iret (v := (-1)) hx hb hr (fun t ht hW => ⟨⟨(-1), (ad, E, RL), rfl, ⟨⟨nd, hCI⟩, rfl⟩, by rw [ht]; exact hP, hD⟩, hS.F ht⟩) hS.2.2 xd_Sh_acceptDescriptor_75
set_option maxHeartbeats 4000000 in
set_option maxRecDepth 100000 in
theorem xc_Sh_acceptPackage (l : Launch) (D : va_G) (kA : Nat → ClassId) (sz : Nat) (ad : Nat → Nat → Nat) (E : Nat → Nat → va_E) (RL : List (Nat × Nat)) (Z : zT) (ml : Nat) (nd : Nat) (len : Nat) (wn : Nat) (cs : Nat) (hCI : CI kA ad E RL ml nd len wn cs) : Met l xy_Sh_acceptPackage (.code xy_Sh_acceptPackage xb_Sh_acceptPackage 4 (some .int) :: wT) { frames := 4, cells := 6, slots := 20, locals := 76 } (va_Pc [.ref (ad 0 5), .ref (ad 0 1)] (xPreZ D kA sz (rp ad E RL) Z)) (va_Qi (fun (r : Int32) (u : (Nat → Nat → Nat) × (Nat → Nat → va_E) × List (Nat × Nat)) => (∃ nd2, CI kA u.1 u.2.1 u.2.2 ml nd2 len wn cs) ∧ u.1 0 0 = ad 0 0) (fun (u : (Nat → Nat → Nat) × (Nat → Nat → va_E) × List (Nat × Nat)) t => va_P D xcl (rp u.1 u.2.1 u.2.2) t.heap ∧ va_D (va_A (rp ad E RL) sz) (rp u.1 u.2.1 u.2.2)) (va_A (rp ad E RL) sz)) 6 20 (va_A (rp ad E RL) sz) := by
  refine Met.ofW (cc := xb_Sh_acceptPackage) (maxL := 4) (ret := (some .int)) (by decide) rfl ?_
  intro p e s m args below meth c s₁ B hml hv
  obtain ⟨rfl, ⟨hsz, hP, hK, hD0⟩, hZ⟩ := hv
  have hx := B.exec
  have hb := B.bytes
  have hr := B.returns
  have hT := x_hT B.pre
  have hown : s.vm.findClass xR_Sh = some m.cls := findClass_of_methodNamed B.named
  have hlocks := B.notSynchronized
  subst hsz
  have hD := hD0.self (sz := s.heap.size)
  generalize hAe : va_A (rp ad E RL) s.heap.size = A at hD hZ ⊢
  have hA : ∀ q : Nat, s.heap.size ≤ q → A q := fun q h => by rw [← hAe]; exact Or.inr h
  have hS : va_S A s.heap s.heap [] := va_S.rf
  have hl := lv_entry ([.ref (ad 0 5), .ref (ad 0 1)]) (n := 4) (Nat.le_of_ble_eq_true rfl)
  rw [lg_entry_eq]
  generalize (lg_sl ([.ref (ad 0 5), .ref (ad 0 1)]) ++ List.replicate (4 - (lg_sl ([.ref (ad 0 5), .ref (ad 0 1)])).length) Slot.unset).toArray = ls at hl ⊢
  have hl : lv_has ls 4 [(0, .ref (ad 0 5)), (1, .ref (ad 0 1))] := hl
  have hP : va_P D xcl (rp ad E RL) s.heap := hP
  obtain ⟨hmB, hDk, hLi, hSh, hCh, hLa, hDIs, hLIs⟩ := id hCI
  obtain ⟨lf_1, q_1⟩ := id (hDk)
  have c_2 : E 0 0 = .inr (0, [.ref (ad 0 1), .ref (ad 0 5), .ref (ad 0 7), .ref (ad 0 9), .int (nI ml), .int lf_1]) := q_1
  have m_3 : (0, 0) ∈ RL := hmB 0 (by omega)
  obtain ⟨tx_4, fb_4, fe_4, hl1_4, hw2_4, q1_4, q2_4, q3_4, q4_4, hws_4⟩ := id (hLi)
  have c_5 : E 0 1 = .inr (1, [.ref (ad 0 2), .ref (ad 0 3), .ref (ad 0 4), .int (nI len), .int (nI wn)]) := q1_4
  have m_6 : (0, 1) ∈ RL := hmB 1 (by omega)
  have c_7 : E 0 2 = .inl (kA 1, 40, .inl tx_4) := q2_4
  have m_8 : (0, 2) ∈ RL := hmB 2 (by omega)
  have c_9 : E 0 3 = .inl (kA 0, 20, .inl fb_4) := q3_4
  have m_10 : (0, 3) ∈ RL := hmB 3 (by omega)
  have c_11 : E 0 4 = .inl (kA 0, 20, .inl fe_4) := q4_4
  have m_12 : (0, 4) ∈ RL := hmB 4 (by omega)
  obtain ⟨fd_13, hnd_13, q5_13, q6_13, hds_13⟩ := id (hSh)
  have c_14 : E 0 5 = .inr (2, [.ref (ad 0 6), .int (nI nd)]) := q5_13
  have m_15 : (0, 5) ∈ RL := hmB 5 (by omega)
  have c_16 : E 0 6 = .inl (kA 4, 12, .inr (.inr (.inr (.inr fd_13)))) := q6_13
  have m_17 : (0, 6) ∈ RL := hmB 6 (by omega)
  obtain ⟨cf_18, pv_18, fc_18, hcs_18, hpv_18, q7_18, q8_18, hfc_18⟩ := id (hCh)
  have c_19 : E 0 7 = .inr (3, [.ref (ad 0 5), .ref (ad 0 8), .int (nI cs), .int cf_18, pv_18]) := q7_18
  have m_20 : (0, 7) ∈ RL := hmB 7 (by omega)
  have c_21 : E 0 8 = .inl (kA 4, 12, .inr (.inr (.inr (.inr fc_18)))) := q8_18
  have m_22 : (0, 8) ∈ RL := hmB 8 (by omega)
  obtain ⟨fl_23, hml_23, q9_23, hla_23⟩ := id (hLa)
  have c_24 : E 0 9 = .inl (kA 5, 5, .inr (.inr (.inr (.inr fl_23)))) := q9_23
  have m_25 : (0, 9) ∈ RL := hmB 9 (by omega)
  refine lv_aload_n hx hb xd_Sh_acceptPackage_0 rfl (lv_at hl 1 rfl) ?_
  refine lv_iconst (v := 1) hx hb xd_Sh_acceptPackage_1 (by decide) ?_
  have hFc := px_free hD hS hA
  refine va_calli (va_runV (As := [.int 1]) (rest := []) ⟨hx, hb, hml, hown, hT⟩ (xc_Li_nameAt l D kA s.heap.size ad E RL ml nd len wn cs 1 (by first | assumption | omega)) (cwV 1 hT (wT_V yw_19 yw_20 yw_21 yw_17 yw_18) rfl rfl rfl (by decide +kernel) ⟨Nat.le_of_ble_eq_true rfl, Nat.le_of_ble_eq_true rfl⟩) (px_preV hK hP hD m_6 c_5 rfl) rfl rfl hl.1 rfl (lv_room (Nat.le_of_ble_eq_true rfl)) xd_Sh_acceptPackage_2 ⟨(Nat.le_of_ble_eq_true rfl), (Nat.le_of_ble_eq_true rfl)⟩) hS (fun q _ h => hFc q h) hFc (fun r26 u27 t H1 locs ht hvm hp28 hB hz1 hk1 hS => ?_)
  obtain ⟨hP1, hD1⟩ := hB
  rw [ht] at hP1
  have hD1 := hD1.weaken (fun _ _ _ h => hFc _ h)
  generalize H1 = H at hP1 hS ⊢
  have hP := hP1
  have hD := hD1
  have hP : va_P D xcl (rp ad E RL) H := hP
  have hD : va_D A (rp ad E RL) := hD
  refine lv_istore_n hx hb xd_Sh_acceptPackage_5 rfl hl (Nat.le_of_ble_eq_true rfl) rfl (fun ls hl => ?_)
  have hl : lv_has ls 4 [(2, .int r26), (0, .ref (ad 0 5)), (1, .ref (ad 0 1))] := hl
  refine lv_aload_n hx hb xd_Sh_acceptPackage_6 rfl (lv_at hl 2 rfl) ?_
  refine px_get (D := D) (ci := 1) (v := .int (nI wn)) (C := xR_Li) (T := xT_Li) (N := 5) hx hb hT xi_Li hown hK.1 hP m_6 c_5 rfl 4 (by decide) (hT _ yw_22) (fun _ h9 => h9) rfl xd_Sh_acceptPackage_7 ?_
  refine lv_iconst (v := 2) hx hb xd_Sh_acceptPackage_10 (by decide) ?_
  refine xn_ne (a := wn) (b := 2) (tgt := 18) hx hb xd_Sh_acceptPackage_11 (by decide) (by omega) (by omega) (fun hc29 => ?_) (fun hc29 => ?_)
  · refine lv_iconst (v := (-1)) hx hb xd_Sh_acceptPackage_18 (by decide) ?_
    refine W.widen (k := 6) (n := 20) (Nat.le_of_ble_eq_true rfl) (Nat.le_of_ble_eq_true rfl) ?_
    exact W.iret (v := (-1)) hx hb hr (fun t ht hW => ⟨⟨(-1), (ad, E, RL), rfl, ⟨⟨nd, hCI⟩, rfl⟩, by rw [ht]; exact hP, hD⟩, hS.F ht⟩) hS.2.2 xd_Sh_acceptPackage_19
  · refine lv_iload_n hx hb xd_Sh_acceptPackage_14 rfl (lv_at hl 0 rfl) ?_
    refine lv_if_ne (tgt := 20) hx hb xd_Sh_acceptPackage_15 (by decide) (fun hc30 => ?_) (fun hc30 => ?_)
    · refine lv_aload_n hx hb xd_Sh_acceptPackage_20 rfl (lv_at hl 1 rfl) ?_
      have hFc := px_free hD hS hA
      refine va_callq (va_runV (As := []) (rest := []) ⟨hx, hb, hml, hown, hT⟩ (xc_Sh_latest l D kA H.size ad E RL ml nd len wn cs (by first | assumption | omega)) (cwV 0 hT (wT_V yw_37 yw_38 yw_39 yw_27 yw_36) rfl rfl rfl (by decide +kernel) ⟨Nat.le_of_ble_eq_true rfl, Nat.le_of_ble_eq_true rfl⟩) (px_preV hK hP hD m_15 c_14 rfl) rfl rfl hl.1 rfl (lv_room (Nat.le_of_ble_eq_true rfl)) xd_Sh_acceptPackage_21 ⟨(Nat.le_of_ble_eq_true rfl), (Nat.le_of_ble_eq_true rfl)⟩) hS (fun q _ h => hFc q h) hFc (fun r31 u32 t H1 locs ht hvm hp33 hB hz1 hk1 hS => ?_)
      obtain ⟨hP1, hD1⟩ := hB
      rw [ht] at hP1
      have hD1 := hD1.weaken (fun _ _ _ h => hFc _ h)
      generalize H1 = H at hP1 hS ⊢
      have hP := hP1
      have hD := hD1
      have hP : va_P D xcl (rp ad E RL) H := hP
      have hD : va_D A (rp ad E RL) := hD
      rcases hp33 with rfl | ⟨z34, z35, rfl⟩
      · refine W.eq (g2 := F0 m 24 ls [.null]) rfl ?_
        refine lv_astore_nN hx hb xd_Sh_acceptPackage_24 rfl hl (Nat.le_of_ble_eq_true rfl) rfl (fun ls hl => ?_)
        have hl : lv_has ls 4 [(3, .null), (2, .int r26), (0, .ref (ad 0 5)), (1, .ref (ad 0 1))] := hl
        refine lv_aload_nN hx hb xd_Sh_acceptPackage_25 rfl (lv_at hl 0 rfl) ?_
        refine lv_ifnonnullN hx hb xd_Sh_acceptPackage_26 ?_
        refine lv_bipush (v := (-2)) hx hb xd_Sh_acceptPackage_29 (by decide) ?_
        refine W.widen (k := 6) (n := 20) (Nat.le_of_ble_eq_true rfl) (Nat.le_of_ble_eq_true rfl) ?_
        exact W.iret (v := (-2)) hx hb hr (fun t ht hW => ⟨⟨(-2), (ad, E, RL), rfl, ⟨⟨nd, hCI⟩, rfl⟩, by rw [ht]; exact hP, hD⟩, hS.F ht⟩) hS.2.2 xd_Sh_acceptPackage_31
      · refine W.eq (g2 := F0 m 24 ls [.ref (ad (1 + z34) 0)]) rfl ?_
        refine lv_astore_n hx hb xd_Sh_acceptPackage_24 rfl hl (Nat.le_of_ble_eq_true rfl) rfl (fun ls hl => ?_)
        have hl : lv_has ls 4 [(3, .ref (ad (1 + z34) 0)), (2, .int r26), (0, .ref (ad 0 5)), (1, .ref (ad 0 1))] := hl
        refine lv_aload_n hx hb xd_Sh_acceptPackage_25 rfl (lv_at hl 0 rfl) ?_
        refine lv_ifnonnull (tgt := 32) hx hb xd_Sh_acceptPackage_26 (by decide) ?_
        refine lv_aload_n hx hb xd_Sh_acceptPackage_32 rfl (lv_at hl 0 rfl) ?_
        obtain ⟨hm_36, fd_36, nm_36, sd_36, k0_36, k1_36, k2_36, k3_36, f0_36, f1_36, f2_36, f3_36, fe_36, fo_36, tr_36, op_36, hk0_36, hk1_36, hk2_36, hk3_36, q0_36, q1_36, q2_36, q3_36, q4_36, q5_36, q6_36, q7_36, q8_36, q9_36, q10_36, q11_36, q12_36, hg_36⟩ := id (hDIs z34 (by omega))
        have c_37 : E (1 + z34) 0 = .inr (7, [.int (nI z34), .int fd_36, .int nm_36, .ref (ad (1 + z34) 1), .ref (ad (1 + z34) 9), .ref (ad (1 + z34) 10), .ref (ad (1 + z34) 2), .ref (ad (1 + z34) 11), .ref (ad (1 + z34) 12), .ref (ad (1 + z34) 3), .ref (ad (1 + z34) 4), .int sd_36]) := q0_36
        have m_38 : (1 + z34, 0) ∈ RL := hm_36 0 (by omega)
        have c_39 : E (1 + z34) 1 = .inr (8, [.ref (ad (1 + z34) 5), .int (nI k0_36)]) := q1_36
        have m_40 : (1 + z34, 1) ∈ RL := hm_36 1 (by omega)
        have c_41 : E (1 + z34) 2 = .inr (8, [.ref (ad (1 + z34) 6), .int (nI k1_36)]) := q2_36
        have m_42 : (1 + z34, 2) ∈ RL := hm_36 2 (by omega)
        have c_43 : E (1 + z34) 3 = .inr (8, [.ref (ad (1 + z34) 7), .int (nI k2_36)]) := q3_36
        have m_44 : (1 + z34, 3) ∈ RL := hm_36 3 (by omega)
        have c_45 : E (1 + z34) 4 = .inr (8, [.ref (ad (1 + z34) 8), .int (nI k3_36)]) := q4_36
        have m_46 : (1 + z34, 4) ∈ RL := hm_36 4 (by omega)
        have c_47 : E (1 + z34) 5 = .inl (kA 0, 6, .inl f0_36) := q5_36
        have m_48 : (1 + z34, 5) ∈ RL := hm_36 5 (by omega)
        have c_49 : E (1 + z34) 6 = .inl (kA 0, 5, .inl f1_36) := q6_36
        have m_50 : (1 + z34, 6) ∈ RL := hm_36 6 (by omega)
        have c_51 : E (1 + z34) 7 = .inl (kA 0, 3, .inl f2_36) := q7_36
        have m_52 : (1 + z34, 7) ∈ RL := hm_36 7 (by omega)
        have c_53 : E (1 + z34) 8 = .inl (kA 0, 3, .inl f3_36) := q8_36
        have m_54 : (1 + z34, 8) ∈ RL := hm_36 8 (by omega)
        have c_55 : E (1 + z34) 9 = .inl (kA 8, 6, .inr (.inr (.inr (.inr fe_36)))) := q9_36
        have m_56 : (1 + z34, 9) ∈ RL := hm_36 9 (by omega)
        have c_57 : E (1 + z34) 10 = .inl (kA 8, 6, .inr (.inr (.inr (.inr fo_36)))) := q10_36
        have m_58 : (1 + z34, 10) ∈ RL := hm_36 10 (by omega)
        have c_59 : E (1 + z34) 11 = .inl (kA 2, 5, .inl tr_36) := q11_36
        have m_60 : (1 + z34, 11) ∈ RL := hm_36 11 (by omega)
        have c_61 : E (1 + z34) 12 = .inl (kA 2, 5, .inl op_36) := q12_36
        have m_62 : (1 + z34, 12) ∈ RL := hm_36 12 (by omega)
        have hg_36 : ∀ w9, w9 < k0_36 → fe_36 w9 = some (ad (1 + z34) (20 + 3 * w9)) ∧ fo_36 w9 = some (ad (1 + z34) (38 + 3 * w9)) ∧ GI kA (ad (1 + z34)) (E (1 + z34)) (fun o => (1 + z34, o) ∈ RL) (20 + 3 * w9) (21 + 3 * w9) (22 + 3 * w9) ∧ GI kA (ad (1 + z34)) (E (1 + z34)) (fun o => (1 + z34, o) ∈ RL) (38 + 3 * w9) (39 + 3 * w9) (40 + 3 * w9) := hg_36
        refine px_get (D := D) (ci := 7) (v := .ref (ad (1 + z34) 1)) (C := xR_Ds) (T := xT_Ds) (N := 12) hx hb hT xi_Ds hown hK.1 hP m_38 c_37 rfl 3 (by decide) (hT _ yw_40) (fun _ h9 => h9) rfl xd_Sh_acceptPackage_33 ?_
        refine lv_iload_n hx hb xd_Sh_acceptPackage_36 rfl (lv_at hl 1 rfl) ?_
        have hFc := px_free hD hS hA
        refine va_calli (va_runV (As := [.int r26]) (rest := []) ⟨hx, hb, hml, hown, hT⟩ (xc_Na_holds l D kA H.size ad E RL (1 + z34) 1 5 6 k0_36 f0_36 r26 m_40 c_39 m_48 c_47 (by first | assumption | omega) (by first | assumption | omega)) (cwV 1 hT (wT_V yw_42 yw_43 yw_44 yw_45 yw_41) rfl rfl rfl (by decide +kernel) ⟨Nat.le_of_ble_eq_true rfl, Nat.le_of_ble_eq_true rfl⟩) (px_preV hK hP hD m_40 c_39 rfl) rfl rfl hl.1 rfl (lv_room (Nat.le_of_ble_eq_true rfl)) xd_Sh_acceptPackage_37 ⟨(Nat.le_of_ble_eq_true rfl), (Nat.le_of_ble_eq_true rfl)⟩) hS (fun q _ h => hFc q h) hFc (fun r63 u64 t H1 locs ht hvm hp65 hB hz1 hk1 hS => ?_)
        obtain ⟨hP1, hD1⟩ := hB
        rw [ht] at hP1
        have hD1 := hD1.weaken (fun _ _ _ h => hFc _ h)
        generalize H1 = H at hP1 hS ⊢
        have hP := hP1
        have hD := hD1
        have hP : va_P D xcl (rp ad E RL) H := hP
        have hD : va_D A (rp ad E RL) := hD
        rcases hp65 with ⟨rfl, z66, z67, z68⟩ | ⟨rfl, z69⟩
        · refine W.eq (g2 := F0 m 40 ls [.int 1]) rfl ?_
          refine lv_if_eq (tgt := 45) hx hb xd_Sh_acceptPackage_40 (by decide) (fun hc70 => absurd hc70 (by decide)) (fun _ => ?_)
          refine lv_iconst (v := (-1)) hx hb xd_Sh_acceptPackage_43 (by decide) ?_
          refine W.widen (k := 6) (n := 20) (Nat.le_of_ble_eq_true rfl) (Nat.le_of_ble_eq_true rfl) ?_
          exact W.iret (v := (-1)) hx hb hr (fun t ht hW => ⟨⟨(-1), (ad, E, RL), rfl, ⟨⟨nd, hCI⟩, rfl⟩, by rw [ht]; exact hP, hD⟩, hS.F ht⟩) hS.2.2 xd_Sh_acceptPackage_44
        · refine W.eq (g2 := F0 m 40 ls [.int 0]) rfl ?_
          refine lv_if_eq (tgt := 45) hx hb xd_Sh_acceptPackage_40 (by decide) (fun _ => ?_) (fun hc71 => absurd (by decide) hc71)
          refine lv_aload_n hx hb xd_Sh_acceptPackage_45 rfl (lv_at hl 0 rfl) ?_
          refine px_get (D := D) (ci := 7) (v := .int sd_36) (C := xR_Ds) (T := xT_Ds) (N := 12) hx hb hT xi_Ds hown hK.1 hP m_38 c_37 rfl 11 (by decide) (hT _ yw_46) (fun _ h9 => h9) rfl xd_Sh_acceptPackage_46 ?_
          refine lv_if_ne (tgt := 62) hx hb xd_Sh_acceptPackage_49 (by decide) (fun hc72 => ?_) (fun hc72 => ?_)
          · refine lv_bipush (v := (-2)) hx hb xd_Sh_acceptPackage_62 (by decide) ?_
            refine W.widen (k := 6) (n := 20) (Nat.le_of_ble_eq_true rfl) (Nat.le_of_ble_eq_true rfl) ?_
            exact W.iret (v := (-2)) hx hb hr (fun t ht hW => ⟨⟨(-2), (ad, E, RL), rfl, ⟨⟨nd, hCI⟩, rfl⟩, by rw [ht]; exact hP, hD⟩, hS.F ht⟩) hS.2.2 xd_Sh_acceptPackage_64
          · refine lv_aload_n hx hb xd_Sh_acceptPackage_52 rfl (lv_at hl 0 rfl) ?_
            refine px_get (D := D) (ci := 7) (v := .ref (ad (1 + z34) 1)) (C := xR_Ds) (T := xT_Ds) (N := 12) hx hb hT xi_Ds hown hK.1 hP m_38 c_37 rfl 3 (by decide) (hT _ yw_40) (fun _ h9 => h9) rfl xd_Sh_acceptPackage_53 ?_
            have hFc := px_free hD hS hA
            refine va_calli (va_runV (As := []) (rest := []) ⟨hx, hb, hml, hown, hT⟩ (xc_Na_isFull l D kA H.size ad E RL (1 + z34) 1 5 6 k0_36 f0_36 m_40 c_39 m_48 c_47 (by first | assumption | omega) (by first | assumption | omega)) (cwV 0 hT (wT_V yw_48 yw_49 yw_50 yw_45 yw_47) rfl rfl rfl (by decide +kernel) ⟨Nat.le_of_ble_eq_true rfl, Nat.le_of_ble_eq_true rfl⟩) (px_preV hK hP hD m_40 c_39 rfl) rfl rfl hl.1 rfl (lv_room (Nat.le_of_ble_eq_true rfl)) xd_Sh_acceptPackage_56 ⟨(Nat.le_of_ble_eq_true rfl), (Nat.le_of_ble_eq_true rfl)⟩) hS (fun q _ h => hFc q h) hFc (fun r73 u74 t H1 locs ht hvm hp75 hB hz1 hk1 hS => ?_)
            obtain ⟨hP1, hD1⟩ := hB
            rw [ht] at hP1
            have hD1 := hD1.weaken (fun _ _ _ h => hFc _ h)
            generalize H1 = H at hP1 hS ⊢
            have hP := hP1
            have hD := hD1
            have hP : va_P D xcl (rp ad E RL) H := hP
            have hD : va_D A (rp ad E RL) := hD
            rcases hp75 with ⟨rfl, z76⟩ | ⟨rfl, z77⟩
            · refine W.eq (g2 := F0 m 59 ls [.int 1]) rfl ?_
              refine lv_if_eq (tgt := 65) hx hb xd_Sh_acceptPackage_59 (by decide) (fun hc78 => absurd hc78 (by decide)) (fun _ => ?_)
              refine lv_bipush (v := (-2)) hx hb xd_Sh_acceptPackage_62 (by decide) ?_
              refine W.widen (k := 6) (n := 20) (Nat.le_of_ble_eq_true rfl) (Nat.le_of_ble_eq_true rfl) ?_
              exact W.iret (v := (-2)) hx hb hr (fun t ht hW => ⟨⟨(-2), (ad, E, RL), rfl, ⟨⟨nd, hCI⟩, rfl⟩, by rw [ht]; exact hP, hD⟩, hS.F ht⟩) hS.2.2 xd_Sh_acceptPackage_64
            · refine W.eq (g2 := F0 m 59 ls [.int 0]) rfl ?_
              refine lv_if_eq (tgt := 65) hx hb xd_Sh_acceptPackage_59 (by decide) (fun _ => ?_) (fun hc79 => absurd (by decide) hc79)
              refine lv_aload_n hx hb xd_Sh_acceptPackage_65 rfl (lv_at hl 0 rfl) ?_
              refine lv_iload_n hx hb xd_Sh_acceptPackage_66 rfl (lv_at hl 1 rfl) ?_
              have hl := lv_sub hl [1, 2, 3] rfl
              have hl : lv_has ls 4 [(2, .int r26), (0, .ref (ad 0 5)), (1, .ref (ad 0 1))] := hl
              have hFc := px_free hD hS hA
              refine va_callv (va_runV (As := [.int r26]) (rest := []) ⟨hx, hb, hml, hown, hT⟩ (xc_Ds_addPackage l D kA H.size ad E RL z34 r26 (hDIs z34 (by omega))) (cwV 1 hT (wT_V yw_52 yw_53 yw_54 yw_32 yw_51) rfl rfl rfl (by decide +kernel) ⟨Nat.le_of_ble_eq_true rfl, Nat.le_of_ble_eq_true rfl⟩) (px_preV hK hP hD m_38 c_37 rfl) rfl rfl hl.1 rfl (lv_room (Nat.le_of_ble_eq_true rfl)) xd_Sh_acceptPackage_67 ⟨(Nat.le_of_ble_eq_true rfl), (Nat.le_of_ble_eq_true rfl)⟩) hS (fun q _ h => hFc q h) hFc (fun u81 t H1 locs ht hvm hp82 hB hz1 hk1 hS => ?_)
              obtain ⟨hP1, hD1⟩ := hB
              rw [ht] at hP1
              have hD1 := hD1.weaken (fun _ _ _ h => hFc _ h)
              generalize H1 = H at hP1 hS ⊢
              have hP := hP1
              have hD := hD1
              obtain ⟨ad83, E84, RL85⟩ := u81
              obtain ⟨hp89, p_86, p_87, p_88⟩ := hp82
              have p_86 : (∀ b2 o2, ¬ (b2 = 1 + z34) → E84 b2 o2 = E b2 o2) := p_86
              have p_87 : (∀ b2 o2, ¬ (b2 = 1 + z34) → ad83 b2 o2 = ad b2 o2) := p_87
              have p_88 : (∀ x ∈ RL, x ∈ RL85) := p_88
              have hl : lv_has ls 4 [(2, .int r26), (0, .ref (ad83 0 5)), (1, .ref (ad83 0 1))] := by
                rw [p_87 0 5 (by omega), p_87 0 1 (by omega)]; exact hl
              have m_90 : (0, 0) ∈ RL85 := p_88 _ m_3
              have m_91 : (0, 1) ∈ RL85 := p_88 _ m_6
              have m_92 : (0, 2) ∈ RL85 := p_88 _ m_8
              have m_93 : (0, 3) ∈ RL85 := p_88 _ m_10
              have m_94 : (0, 4) ∈ RL85 := p_88 _ m_12
              have m_95 : (0, 5) ∈ RL85 := p_88 _ m_15
              have m_96 : (0, 6) ∈ RL85 := p_88 _ m_17
              have m_97 : (0, 7) ∈ RL85 := p_88 _ m_20
              have m_98 : (0, 8) ∈ RL85 := p_88 _ m_22
              have m_99 : (0, 9) ∈ RL85 := p_88 _ m_25
              have m_100 : (1 + z34, 0) ∈ RL85 := p_88 _ m_38
              have m_101 : (1 + z34, 1) ∈ RL85 := p_88 _ m_40
              have m_102 : (1 + z34, 2) ∈ RL85 := p_88 _ m_42
              have m_103 : (1 + z34, 3) ∈ RL85 := p_88 _ m_44
              have m_104 : (1 + z34, 4) ∈ RL85 := p_88 _ m_46
              have m_105 : (1 + z34, 5) ∈ RL85 := p_88 _ m_48
              have m_106 : (1 + z34, 6) ∈ RL85 := p_88 _ m_50
              have m_107 : (1 + z34, 7) ∈ RL85 := p_88 _ m_52
              have m_108 : (1 + z34, 8) ∈ RL85 := p_88 _ m_54
              have m_109 : (1 + z34, 9) ∈ RL85 := p_88 _ m_56
              have m_110 : (1 + z34, 10) ∈ RL85 := p_88 _ m_58
              have m_111 : (1 + z34, 11) ∈ RL85 := p_88 _ m_60
              have m_112 : (1 + z34, 12) ∈ RL85 := p_88 _ m_62
              have c_113 : E84 0 0 = .inr (0, [.ref (ad83 0 1), .ref (ad83 0 5), .ref (ad83 0 7), .ref (ad83 0 9), .int (nI ml), .int lf_1]) := by rw [p_86 0 0 (by omega), p_87 0 1 (by omega), p_87 0 5 (by omega), p_87 0 7 (by omega), p_87 0 9 (by omega)]; exact c_2
              have c_114 : E84 0 1 = .inr (1, [.ref (ad83 0 2), .ref (ad83 0 3), .ref (ad83 0 4), .int (nI len), .int (nI wn)]) := by rw [p_86 0 1 (by omega), p_87 0 2 (by omega), p_87 0 3 (by omega), p_87 0 4 (by omega)]; exact c_5
              have c_115 : E84 0 2 = .inl (kA 1, 40, .inl tx_4) := by rw [p_86 0 2 (by omega)]; exact c_7
              have c_116 : E84 0 3 = .inl (kA 0, 20, .inl fb_4) := by rw [p_86 0 3 (by omega)]; exact c_9
              have c_117 : E84 0 4 = .inl (kA 0, 20, .inl fe_4) := by rw [p_86 0 4 (by omega)]; exact c_11
              have c_118 : E84 0 5 = .inr (2, [.ref (ad83 0 6), .int (nI nd)]) := by rw [p_86 0 5 (by omega), p_87 0 6 (by omega)]; exact c_14
              have c_119 : E84 0 6 = .inl (kA 4, 12, .inr (.inr (.inr (.inr fd_13)))) := by rw [p_86 0 6 (by omega)]; exact c_16
              have c_120 : E84 0 7 = .inr (3, [.ref (ad83 0 5), .ref (ad83 0 8), .int (nI cs), .int cf_18, pv_18]) := by rw [p_86 0 7 (by omega), p_87 0 5 (by omega), p_87 0 8 (by omega)]; exact c_19
              have c_121 : E84 0 8 = .inl (kA 4, 12, .inr (.inr (.inr (.inr fc_18)))) := by rw [p_86 0 8 (by omega)]; exact c_21
              have c_122 : E84 0 9 = .inl (kA 5, 5, .inr (.inr (.inr (.inr fl_23)))) := by rw [p_86 0 9 (by omega)]; exact c_24
              have hP : va_P D xcl (rp ad83 E84 RL85) H := hP
              have hD : va_D A (rp ad83 E84 RL85) := hD
              obtain ⟨hDI9, hA9⟩ := hp89
              have hA0 : ∀ d9, d9 < nd → ad83 (1 + d9) 0 = ad (1 + d9) 0 := fun d9 hd9 => by
                  by_cases q : d9 = z34
                  · subst q; exact hA9 0 (by omega)
                  · exact p_87 (1 + d9) 0 (by omega)
              have hCI : CI kA ad83 E84 RL85 ml nd len wn cs := ⟨(fun o9 h9 => p_88 _ (hmB o9 h9)), ⟨lf_1, c_113⟩, ⟨tx_4, fb_4, fe_4, (by omega), (by omega), c_114, c_115, c_116, c_117, hws_4⟩, ⟨fd_13, (by omega), c_118, c_119, (DS_ad hds_13 hA0)⟩, ⟨cf_18, pv_18, fc_18, (by omega), (PV_ad hpv_18 (fun n9 hn9 => by show ad83 (20 + n9) 0 = _; rw [p_87 (20 + n9) 0 (by omega)])), c_120, c_121, (FC_ad hfc_18 hA0 (by omega))⟩, ⟨fl_23, (by omega), c_122, (LA_ad hla_23 (fun n9 hn9 => by show ad83 (20 + n9) 0 = _; rw [p_87 (20 + n9) 0 (by omega)]))⟩, (DIs_set (x := z34) (fun d9 hd9 hx9 => fun2 fun o9 => by show E84 (1 + d9) o9 = _; rw [p_86 (1 + d9) o9 (by omega)]) (fun d9 hd9 hx9 => fun2 fun o9 => by show ad83 (1 + d9) o9 = _; rw [p_87 (1 + d9) o9 (by omega)]) (fun _ h9 => p_88 _ h9) hDI9 hDIs), (LIs_same (Nat.le_refl _) (fun n9 hn9 => fun2 fun o9 => by show E84 (20 + n9) o9 = _; rw [p_86 (20 + n9) o9 (by omega)]) (fun n9 hn9 => fun2 fun o9 => by show ad83 (20 + n9) o9 = _; rw [p_87 (20 + n9) o9 (by omega)]) hA0 (fun _ h9 => p_88 _ h9) hLIs)⟩
              have hA00 : ad83 0 0 = ad 0 0 := by show ad83 0 0 = _; rw [p_87 0 0 (by omega)]
              obtain ⟨hmB, hDk, hLi, hSh, hCh, hLa, hDIs, hLIs⟩ := id hCI
              refine lv_iconst (v := 2) hx hb xd_Sh_acceptPackage_70 (by decide) ?_
              refine W.widen (k := 6) (n := 20) (Nat.le_of_ble_eq_true rfl) (Nat.le_of_ble_eq_true rfl) ?_
              exact W.iret (v := 2) hx hb hr (fun t ht hW => ⟨⟨2, (ad83, E84, RL85), rfl, ⟨⟨nd, hCI⟩, hA00⟩, by rw [ht]; exact hP, hD⟩, hS.F ht⟩) hS.2.2 xd_Sh_acceptPackage_71
    · refine lv_iconst (v := (-1)) hx hb xd_Sh_acceptPackage_18 (by decide) ?_
      refine W.widen (k := 6) (n := 20) (Nat.le_of_ble_eq_true rfl) (Nat.le_of_ble_eq_true rfl) ?_
      exact W.iret (v := (-1)) hx hb hr (fun t ht hW => ⟨⟨(-1), (ad, E, RL), rfl, ⟨⟨nd, hCI⟩, rfl⟩, by rw [ht]; exact hP, hD⟩, hS.F ht⟩) hS.2.2 xd_Sh_acceptPackage_19
set_option maxHeartbeats 4000000 in
set_option maxRecDepth 100000 in
theorem xc_Sh_acceptGrant (l : Launch) (D : va_G) (kA : Nat → ClassId) (sz : Nat) (ad : Nat → Nat → Nat) (E : Nat → Nat → va_E) (RL : List (Nat × Nat)) (Z : zT) (ml : Nat) (nd : Nat) (len : Nat) (wn : Nat) (cs : Nat) (hCI : CI kA ad E RL ml nd len wn cs) : Met l xy_Sh_acceptGrant (.code xy_Sh_acceptGrant xb_Sh_acceptGrant 7 (some .int) :: wT) { frames := 5, cells := 0, slots := 0, locals := 108 } (va_Pc [.ref (ad 0 5), .ref (ad 0 1)] (xPreZ D kA sz (rp ad E RL) Z)) (va_Qi (fun (r : Int32) (u : (Nat → Nat → Nat) × (Nat → Nat → va_E) × List (Nat × Nat)) => (∃ nd2, CI kA u.1 u.2.1 u.2.2 ml nd2 len wn cs) ∧ u.1 0 0 = ad 0 0) (fun (u : (Nat → Nat → Nat) × (Nat → Nat → va_E) × List (Nat × Nat)) t => va_P D xcl (rp u.1 u.2.1 u.2.2) t.heap ∧ va_D (va_A (rp ad E RL) sz) (rp u.1 u.2.1 u.2.2)) (va_A (rp ad E RL) sz)) 0 0 (va_A (rp ad E RL) sz) := by
  refine Met.ofW (cc := xb_Sh_acceptGrant) (maxL := 7) (ret := (some .int)) (by decide) rfl ?_
  intro p e s m args below meth c s₁ B hml hv
  obtain ⟨rfl, ⟨hsz, hP, hK, hD0⟩, hZ⟩ := hv
  have hx := B.exec
  have hb := B.bytes
  have hr := B.returns
  have hT := x_hT B.pre
  have hown : s.vm.findClass xR_Sh = some m.cls := findClass_of_methodNamed B.named
  have hlocks := B.notSynchronized
  subst hsz
  have hD := hD0.self (sz := s.heap.size)
  generalize hAe : va_A (rp ad E RL) s.heap.size = A at hD hZ ⊢
  have hA : ∀ q : Nat, s.heap.size ≤ q → A q := fun q h => by rw [← hAe]; exact Or.inr h
  have hS : va_S A s.heap s.heap [] := va_S.rf
  have hl := lv_entry ([.ref (ad 0 5), .ref (ad 0 1)]) (n := 7) (Nat.le_of_ble_eq_true rfl)
  rw [lg_entry_eq]
  generalize (lg_sl ([.ref (ad 0 5), .ref (ad 0 1)]) ++ List.replicate (7 - (lg_sl ([.ref (ad 0 5), .ref (ad 0 1)])).length) Slot.unset).toArray = ls at hl ⊢
  have hl : lv_has ls 7 [(0, .ref (ad 0 5)), (1, .ref (ad 0 1))] := hl
  have hP : va_P D xcl (rp ad E RL) s.heap := hP
  obtain ⟨hmB, hDk, hLi, hSh, hCh, hLa, hDIs, hLIs⟩ := id hCI
  obtain ⟨lf_1, q_1⟩ := id (hDk)
  have c_2 : E 0 0 = .inr (0, [.ref (ad 0 1), .ref (ad 0 5), .ref (ad 0 7), .ref (ad 0 9), .int (nI ml), .int lf_1]) := q_1
  have m_3 : (0, 0) ∈ RL := hmB 0 (by omega)
  obtain ⟨tx_4, fb_4, fe_4, hl1_4, hw2_4, q1_4, q2_4, q3_4, q4_4, hws_4⟩ := id (hLi)
  have c_5 : E 0 1 = .inr (1, [.ref (ad 0 2), .ref (ad 0 3), .ref (ad 0 4), .int (nI len), .int (nI wn)]) := q1_4
  have m_6 : (0, 1) ∈ RL := hmB 1 (by omega)
  have c_7 : E 0 2 = .inl (kA 1, 40, .inl tx_4) := q2_4
  have m_8 : (0, 2) ∈ RL := hmB 2 (by omega)
  have c_9 : E 0 3 = .inl (kA 0, 20, .inl fb_4) := q3_4
  have m_10 : (0, 3) ∈ RL := hmB 3 (by omega)
  have c_11 : E 0 4 = .inl (kA 0, 20, .inl fe_4) := q4_4
  have m_12 : (0, 4) ∈ RL := hmB 4 (by omega)
  obtain ⟨fd_13, hnd_13, q5_13, q6_13, hds_13⟩ := id (hSh)
  have c_14 : E 0 5 = .inr (2, [.ref (ad 0 6), .int (nI nd)]) := q5_13
  have m_15 : (0, 5) ∈ RL := hmB 5 (by omega)
  have c_16 : E 0 6 = .inl (kA 4, 12, .inr (.inr (.inr (.inr fd_13)))) := q6_13
  have m_17 : (0, 6) ∈ RL := hmB 6 (by omega)
  obtain ⟨cf_18, pv_18, fc_18, hcs_18, hpv_18, q7_18, q8_18, hfc_18⟩ := id (hCh)
  have c_19 : E 0 7 = .inr (3, [.ref (ad 0 5), .ref (ad 0 8), .int (nI cs), .int cf_18, pv_18]) := q7_18
  have m_20 : (0, 7) ∈ RL := hmB 7 (by omega)
  have c_21 : E 0 8 = .inl (kA 4, 12, .inr (.inr (.inr (.inr fc_18)))) := q8_18
  have m_22 : (0, 8) ∈ RL := hmB 8 (by omega)
  obtain ⟨fl_23, hml_23, q9_23, hla_23⟩ := id (hLa)
  have c_24 : E 0 9 = .inl (kA 5, 5, .inr (.inr (.inr (.inr fl_23)))) := q9_23
  have m_25 : (0, 9) ∈ RL := hmB 9 (by omega)
  refine lv_aload_n hx hb xd_Sh_acceptGrant_0 rfl (lv_at hl 1 rfl) ?_
  refine lv_iconst (v := 1) hx hb xd_Sh_acceptGrant_1 (by decide) ?_
  have hFc := px_free hD hS hA
  refine va_calli (va_runV (As := [.int 1]) (rest := []) ⟨hx, hb, hml, hown, hT⟩ (xc_Li_nameAt l D kA s.heap.size ad E RL ml nd len wn cs 1 (by first | assumption | omega)) (cwV 1 hT (wT_V yw_19 yw_20 yw_21 yw_17 yw_18) rfl rfl rfl (by decide +kernel) ⟨Nat.le_of_ble_eq_true rfl, Nat.le_of_ble_eq_true rfl⟩) (px_preV hK hP hD m_6 c_5 rfl) rfl rfl hl.1 rfl (lv_room (Nat.le_of_ble_eq_true rfl)) xd_Sh_acceptGrant_2 ⟨(Nat.le_of_ble_eq_true rfl), (Nat.le_of_ble_eq_true rfl)⟩) hS (fun q _ h => hFc q h) hFc (fun r26 u27 t H1 locs ht hvm hp28 hB hz1 hk1 hS => ?_)
  obtain ⟨hP1, hD1⟩ := hB
  rw [ht] at hP1
  have hD1 := hD1.weaken (fun _ _ _ h => hFc _ h)
  generalize H1 = H at hP1 hS ⊢
  have hP := hP1
  have hD := hD1
  have hP : va_P D xcl (rp ad E RL) H := hP
  have hD : va_D A (rp ad E RL) := hD
  refine lv_istore_n hx hb xd_Sh_acceptGrant_5 rfl hl (Nat.le_of_ble_eq_true rfl) rfl (fun ls hl => ?_)
  have hl : lv_has ls 7 [(2, .int r26), (0, .ref (ad 0 5)), (1, .ref (ad 0 1))] := hl
  refine xjoin (D := D) (cl := xcl) (A := A) (H0 := s.heap) (σ := Int32 × Int32) (ml := 7) 24 (fun (rc9, nm9) => [(3, .int rc9), (2, .int nm9), (1, .ref (ad 0 1)), (0, .ref (ad 0 5))]) (fun (rc9, nm9) => []) (fun (rc9, nm9) => rp ad E RL) (fun (rc9, nm9) => True) ?_ (fun jn29 => ?_)
  · intro a9 ls H locs hl hP hD hS hI
    obtain ⟨rc9, nm9⟩ := a9
    have hl : lv_has ls 7 [(3, .int rc9), (2, .int nm9), (1, .ref (ad 0 1)), (0, .ref (ad 0 5))] := hl
    have hP : va_P D xcl (rp ad E RL) H := hP
    have hD : va_D A (rp ad E RL) := hD
    refine xjoin (D := D) (cl := xcl) (A := A) (H0 := s.heap) (σ := Int32) (ml := 7) 53 (fun (tn9 : Int32) => [(4, .int tn9), (3, .int rc9), (2, .int nm9), (1, .ref (ad 0 1)), (0, .ref (ad 0 5))]) (fun (tn9 : Int32) => []) (fun (tn9 : Int32) => rp ad E RL) (fun (tn9 : Int32) => True) ?_ (fun jn30 => ?_)
    · intro a9 ls H locs hl hP hD hS hI
      obtain ⟨tn9, rfl⟩ : ∃ z, z = a9 := ⟨_, rfl⟩
      have hl : lv_has ls 7 [(4, .int tn9), (3, .int rc9), (2, .int nm9), (1, .ref (ad 0 1)), (0, .ref (ad 0 5))] := hl
      have hP : va_P D xcl (rp ad E RL) H := hP
      have hD : va_D A (rp ad E RL) := hD
      refine xjoin (D := D) (cl := xcl) (A := A) (H0 := s.heap) (σ := Unit) (ml := 7) 72 (fun (_ : Unit) => [(3, .int rc9), (2, .int nm9), (1, .ref (ad 0 1)), (0, .ref (ad 0 5))]) (fun (_ : Unit) => []) (fun (_ : Unit) => rp ad E RL) (fun (_ : Unit) => True) ?_ (fun jn31 => ?_)
      · intro a9 ls H locs hl hP hD hS hI
        have hl : lv_has ls 7 [(3, .int rc9), (2, .int nm9), (1, .ref (ad 0 1)), (0, .ref (ad 0 5))] := hl
        have hP : va_P D xcl (rp ad E RL) H := hP
        have hD : va_D A (rp ad E RL) := hD
        refine lv_aload_n hx hb xd_Sh_acceptGrant_72 rfl (lv_at hl 3 rfl) ?_
        have hFc := px_free hD hS hA
        refine va_callq (va_runV (As := []) (rest := []) ⟨hx, hb, hml, hown, hT⟩ (xc_Sh_latest l D kA H.size ad E RL ml nd len wn cs (by first | assumption | omega)) (cwV 0 hT (wT_V yw_37 yw_38 yw_39 yw_27 yw_36) rfl rfl rfl (by decide +kernel) ⟨Nat.le_of_ble_eq_true rfl, Nat.le_of_ble_eq_true rfl⟩) (px_preV hK hP hD m_15 c_14 rfl) rfl rfl hl.1 rfl (lv_room (Nat.le_of_ble_eq_true rfl)) xd_Sh_acceptGrant_73 ⟨(Nat.le_of_ble_eq_true rfl), (Nat.le_of_ble_eq_true rfl)⟩) hS (fun q _ h => hFc q h) hFc (fun r32 u33 t H1 locs ht hvm hp34 hB hz1 hk1 hS => ?_)
        obtain ⟨hP1, hD1⟩ := hB
        rw [ht] at hP1
        have hD1 := hD1.weaken (fun _ _ _ h => hFc _ h)
        generalize H1 = H at hP1 hS ⊢
        have hP := hP1
        have hD := hD1
        have hP : va_P D xcl (rp ad E RL) H := hP
        have hD : va_D A (rp ad E RL) := hD
        rcases hp34 with rfl | ⟨z35, z36, rfl⟩
        · refine W.eq (g2 := F0 m 76 ls [.null]) rfl ?_
          refine lv_astoreN hx hb xd_Sh_acceptGrant_76 hl (Nat.le_of_ble_eq_true rfl) rfl (fun ls hl => ?_)
          have hl : lv_has ls 7 [(5, .null), (3, .int rc9), (2, .int nm9), (1, .ref (ad 0 1)), (0, .ref (ad 0 5))] := hl
          refine lv_aloadN hx hb xd_Sh_acceptGrant_78 (lv_at hl 0 rfl) ?_
          refine lv_ifnonnullN hx hb xd_Sh_acceptGrant_80 ?_
          refine lv_bipush (v := (-2)) hx hb xd_Sh_acceptGrant_83 (by decide) ?_
          refine W.widen (k := 0) (n := 0) (Nat.le_of_ble_eq_true rfl) (Nat.le_of_ble_eq_true rfl) ?_
          exact W.iret (v := (-2)) hx hb hr (fun t ht hW => ⟨⟨(-2), (ad, E, RL), rfl, ⟨⟨nd, hCI⟩, rfl⟩, by rw [ht]; exact hP, hD⟩, hS.F ht⟩) hS.2.2 xd_Sh_acceptGrant_85
        · refine W.eq (g2 := F0 m 76 ls [.ref (ad (1 + z35) 0)]) rfl ?_
          refine lv_astore hx hb xd_Sh_acceptGrant_76 hl (Nat.le_of_ble_eq_true rfl) rfl (fun ls hl => ?_)
          have hl : lv_has ls 7 [(5, .ref (ad (1 + z35) 0)), (3, .int rc9), (2, .int nm9), (1, .ref (ad 0 1)), (0, .ref (ad 0 5))] := hl
          refine lv_aload hx hb xd_Sh_acceptGrant_78 (lv_at hl 0 rfl) ?_
          refine lv_ifnonnull (tgt := 86) hx hb xd_Sh_acceptGrant_80 (by decide) ?_
          refine lv_aload_n hx hb xd_Sh_acceptGrant_86 rfl (lv_at hl 3 rfl) ?_
          refine lv_iconst (v := 0) hx hb xd_Sh_acceptGrant_87 (by decide) ?_
          refine va_ldcS (q := Z.1 2) hx hb hown hZ.2.2.2.1.2.2.1 xd_Sh_acceptGrant_88 ?_
          have hFc := px_free hD hS hA
          refine va_calli (va_runV (As := [.int 0, .ref (Z.1 2)]) (rest := []) ⟨hx, hb, hml, hown, hT⟩ (xc_Li_wordIs l D kA H.size ad E RL Z ml nd len wn cs 0 2 (by first | assumption | omega) (by first | assumption | omega)) (cwV 2 hT (wT_V yw_14 yw_15 yw_16 yw_17 yw_13) rfl rfl rfl (by decide +kernel) ⟨Nat.le_of_ble_eq_true rfl, Nat.le_of_ble_eq_true rfl⟩) (px_preVZ hK hP hD m_6 c_5 rfl hFc (hZ.kept hS)) rfl rfl hl.1 rfl (lv_room (Nat.le_of_ble_eq_true rfl)) xd_Sh_acceptGrant_90 ⟨(Nat.le_of_ble_eq_true rfl), (Nat.le_of_ble_eq_true rfl)⟩) hS (fun q _ h => hFc q h) hFc (fun r37 u38 t H1 locs ht hvm hp39 hB hz1 hk1 hS => ?_)
          obtain ⟨hP1, hD1⟩ := hB
          rw [ht] at hP1
          have hD1 := hD1.weaken (fun _ _ _ h => hFc _ h)
          generalize H1 = H at hP1 hS ⊢
          have hP := hP1
          have hD := hD1
          have hP : va_P D xcl (rp ad E RL) H := hP
          have hD : va_D A (rp ad E RL) := hD
          rcases hp39 with rfl | rfl
          · refine W.eq (g2 := F0 m 93 ls [.int 0]) rfl ?_
            refine lv_if_eq (tgt := 105) hx hb xd_Sh_acceptGrant_93 (by decide) (fun _ => ?_) (fun hc40 => absurd (by decide) hc40)
            refine lv_aload hx hb xd_Sh_acceptGrant_105 (lv_at hl 0 rfl) ?_
            refine lv_iload_n hx hb xd_Sh_acceptGrant_107 rfl (lv_at hl 2 rfl) ?_
            have hFc := px_free hD hS hA
            obtain ⟨hm_41, fd_41, nm_41, sd_41, k0_41, k1_41, k2_41, k3_41, f0_41, f1_41, f2_41, f3_41, fe_41, fo_41, tr_41, op_41, hk0_41, hk1_41, hk2_41, hk3_41, q0_41, q1_41, q2_41, q3_41, q4_41, q5_41, q6_41, q7_41, q8_41, q9_41, q10_41, q11_41, q12_41, hg_41⟩ := id (hDIs z35 (by omega))
            have c_42 : E (1 + z35) 0 = .inr (7, [.int (nI z35), .int fd_41, .int nm_41, .ref (ad (1 + z35) 1), .ref (ad (1 + z35) 9), .ref (ad (1 + z35) 10), .ref (ad (1 + z35) 2), .ref (ad (1 + z35) 11), .ref (ad (1 + z35) 12), .ref (ad (1 + z35) 3), .ref (ad (1 + z35) 4), .int sd_41]) := q0_41
            have m_43 : (1 + z35, 0) ∈ RL := hm_41 0 (by omega)
            have c_44 : E (1 + z35) 1 = .inr (8, [.ref (ad (1 + z35) 5), .int (nI k0_41)]) := q1_41
            have m_45 : (1 + z35, 1) ∈ RL := hm_41 1 (by omega)
            have c_46 : E (1 + z35) 2 = .inr (8, [.ref (ad (1 + z35) 6), .int (nI k1_41)]) := q2_41
            have m_47 : (1 + z35, 2) ∈ RL := hm_41 2 (by omega)
            have c_48 : E (1 + z35) 3 = .inr (8, [.ref (ad (1 + z35) 7), .int (nI k2_41)]) := q3_41
            have m_49 : (1 + z35, 3) ∈ RL := hm_41 3 (by omega)
            have c_50 : E (1 + z35) 4 = .inr (8, [.ref (ad (1 + z35) 8), .int (nI k3_41)]) := q4_41
            have m_51 : (1 + z35, 4) ∈ RL := hm_41 4 (by omega)
            have c_52 : E (1 + z35) 5 = .inl (kA 0, 6, .inl f0_41) := q5_41
            have m_53 : (1 + z35, 5) ∈ RL := hm_41 5 (by omega)
            have c_54 : E (1 + z35) 6 = .inl (kA 0, 5, .inl f1_41) := q6_41
            have m_55 : (1 + z35, 6) ∈ RL := hm_41 6 (by omega)
            have c_56 : E (1 + z35) 7 = .inl (kA 0, 3, .inl f2_41) := q7_41
            have m_57 : (1 + z35, 7) ∈ RL := hm_41 7 (by omega)
            have c_58 : E (1 + z35) 8 = .inl (kA 0, 3, .inl f3_41) := q8_41
            have m_59 : (1 + z35, 8) ∈ RL := hm_41 8 (by omega)
            have c_60 : E (1 + z35) 9 = .inl (kA 8, 6, .inr (.inr (.inr (.inr fe_41)))) := q9_41
            have m_61 : (1 + z35, 9) ∈ RL := hm_41 9 (by omega)
            have c_62 : E (1 + z35) 10 = .inl (kA 8, 6, .inr (.inr (.inr (.inr fo_41)))) := q10_41
            have m_63 : (1 + z35, 10) ∈ RL := hm_41 10 (by omega)
            have c_64 : E (1 + z35) 11 = .inl (kA 2, 5, .inl tr_41) := q11_41
            have m_65 : (1 + z35, 11) ∈ RL := hm_41 11 (by omega)
            have c_66 : E (1 + z35) 12 = .inl (kA 2, 5, .inl op_41) := q12_41
            have m_67 : (1 + z35, 12) ∈ RL := hm_41 12 (by omega)
            have hg_41 : ∀ w9, w9 < k0_41 → fe_41 w9 = some (ad (1 + z35) (20 + 3 * w9)) ∧ fo_41 w9 = some (ad (1 + z35) (38 + 3 * w9)) ∧ GI kA (ad (1 + z35)) (E (1 + z35)) (fun o => (1 + z35, o) ∈ RL) (20 + 3 * w9) (21 + 3 * w9) (22 + 3 * w9) ∧ GI kA (ad (1 + z35)) (E (1 + z35)) (fun o => (1 + z35, o) ∈ RL) (38 + 3 * w9) (39 + 3 * w9) (40 + 3 * w9) := hg_41
            refine va_callq (va_runV (As := [.int nm9]) (rest := []) ⟨hx, hb, hml, hown, hT⟩ (xc_Ds_openingOf l D kA H.size ad E RL nd z35 nm9 (by first | assumption | omega) (by first | assumption | omega)) (cwV 1 hT (wT_V yw_56 yw_57 yw_58 yw_32 yw_55) rfl rfl rfl (by decide +kernel) ⟨Nat.le_of_ble_eq_true rfl, Nat.le_of_ble_eq_true rfl⟩) (px_preV hK hP hD m_43 c_42 rfl) rfl rfl hl.1 rfl (lv_room (Nat.le_of_ble_eq_true rfl)) xd_Sh_acceptGrant_108 ⟨(Nat.le_of_ble_eq_true rfl), (Nat.le_of_ble_eq_true rfl)⟩) hS (fun q _ h => hFc q h) hFc (fun r68 u69 t H1 locs ht hvm hp70 hB hz1 hk1 hS => ?_)
            obtain ⟨hP1, hD1⟩ := hB
            rw [ht] at hP1
            have hD1 := hD1.weaken (fun _ _ _ h => hFc _ h)
            generalize H1 = H at hP1 hS ⊢
            have hP := hP1
            have hD := hD1
            have hP : va_P D xcl (rp ad E RL) H := hP
            have hD : va_D A (rp ad E RL) := hD
            rcases hp70 with rfl | ⟨z71, z72, rfl, z73⟩
            · refine W.eq (g2 := F0 m 111 ls [.null]) rfl ?_
              refine lv_astoreN hx hb xd_Sh_acceptGrant_111 hl (Nat.le_of_ble_eq_true rfl) rfl (fun ls hl => ?_)
              have hl : lv_has ls 7 [(6, .null), (5, .ref (ad (1 + z35) 0)), (3, .int rc9), (2, .int nm9), (1, .ref (ad 0 1)), (0, .ref (ad 0 5))] := hl
              refine lv_aloadN hx hb xd_Sh_acceptGrant_113 (lv_at hl 0 rfl) ?_
              refine lv_ifnonnullN hx hb xd_Sh_acceptGrant_115 ?_
              refine lv_iconst (v := (-1)) hx hb xd_Sh_acceptGrant_118 (by decide) ?_
              refine W.widen (k := 0) (n := 0) (Nat.le_of_ble_eq_true rfl) (Nat.le_of_ble_eq_true rfl) ?_
              exact W.iret (v := (-1)) hx hb hr (fun t ht hW => ⟨⟨(-1), (ad, E, RL), rfl, ⟨⟨nd, hCI⟩, rfl⟩, by rw [ht]; exact hP, hD⟩, hS.F ht⟩) hS.2.2 xd_Sh_acceptGrant_119
            · refine W.eq (g2 := F0 m 111 ls [.ref (ad (1 + z35) (38 + 3 * z71))]) rfl ?_
              obtain ⟨m0_74, m1_74, m2_74, ta_74, n_74, f_74, hn_74, q0_74, q1_74, q2_74⟩ := z73
              have c_75 : E (1 + z35) (38 + 3 * z71) = .inr (9, [.ref (ad (1 + z35) (39 + 3 * z71)), .int ta_74]) := q0_74
              have m_76 : (1 + z35, 38 + 3 * z71) ∈ RL := m0_74
              have c_77 : E (1 + z35) (39 + 3 * z71) = .inr (8, [.ref (ad (1 + z35) (40 + 3 * z71)), .int (nI n_74)]) := q1_74
              have m_78 : (1 + z35, 39 + 3 * z71) ∈ RL := m1_74
              have c_79 : E (1 + z35) (40 + 3 * z71) = .inl (kA 0, 3, .inl f_74) := q2_74
              have m_80 : (1 + z35, 40 + 3 * z71) ∈ RL := m2_74
              refine lv_astore hx hb xd_Sh_acceptGrant_111 hl (Nat.le_of_ble_eq_true rfl) rfl (fun ls hl => ?_)
              have hl : lv_has ls 7 [(6, .ref (ad (1 + z35) (38 + 3 * z71))), (5, .ref (ad (1 + z35) 0)), (3, .int rc9), (2, .int nm9), (1, .ref (ad 0 1)), (0, .ref (ad 0 5))] := hl
              refine lv_aload hx hb xd_Sh_acceptGrant_113 (lv_at hl 0 rfl) ?_
              refine lv_ifnonnull (tgt := 120) hx hb xd_Sh_acceptGrant_115 (by decide) ?_
              refine lv_aload hx hb xd_Sh_acceptGrant_120 (lv_at hl 1 rfl) ?_
              refine px_get (D := D) (ci := 7) (v := .int sd_41) (C := xR_Ds) (T := xT_Ds) (N := 12) hx hb hT xi_Ds hown hK.1 hP m_43 c_42 rfl 11 (by decide) (hT _ yw_46) (fun _ h9 => h9) rfl xd_Sh_acceptGrant_122 ?_
              refine lv_if_ne (tgt := 137) hx hb xd_Sh_acceptGrant_125 (by decide) (fun hc81 => ?_) (fun hc81 => ?_)
              · refine lv_bipush (v := (-2)) hx hb xd_Sh_acceptGrant_137 (by decide) ?_
                refine W.widen (k := 0) (n := 0) (Nat.le_of_ble_eq_true rfl) (Nat.le_of_ble_eq_true rfl) ?_
                exact W.iret (v := (-2)) hx hb hr (fun t ht hW => ⟨⟨(-2), (ad, E, RL), rfl, ⟨⟨nd, hCI⟩, rfl⟩, by rw [ht]; exact hP, hD⟩, hS.F ht⟩) hS.2.2 xd_Sh_acceptGrant_139
              · refine lv_aload hx hb xd_Sh_acceptGrant_128 (lv_at hl 0 rfl) ?_
                refine lv_iload_n hx hb xd_Sh_acceptGrant_130 rfl (lv_at hl 2 rfl) ?_
                have hFc := px_free hD hS hA
                refine va_calli (va_runV (As := [.int rc9]) (rest := []) ⟨hx, hb, hml, hown, hT⟩ (xc_Gr_hasRoomFor l D kA H.size ad E RL (1 + z35) (38 + 3 * z71) (39 + 3 * z71) (40 + 3 * z71) ta_74 n_74 f_74 rc9 m_76 c_75 m_78 c_77 m_80 c_79 (by first | assumption | omega)) (cwV 1 hT (wT_V yw_60 yw_61 yw_62 yw_63 yw_59) rfl rfl rfl (by decide +kernel) ⟨Nat.le_of_ble_eq_true rfl, Nat.le_of_ble_eq_true rfl⟩) (px_preV hK hP hD m_76 c_75 rfl) rfl rfl hl.1 rfl (lv_room (Nat.le_of_ble_eq_true rfl)) xd_Sh_acceptGrant_131 ⟨(Nat.le_of_ble_eq_true rfl), (Nat.le_of_ble_eq_true rfl)⟩) hS (fun q _ h => hFc q h) hFc (fun r82 u83 t H1 locs ht hvm hp84 hB hz1 hk1 hS => ?_)
                obtain ⟨hP1, hD1⟩ := hB
                rw [ht] at hP1
                have hD1 := hD1.weaken (fun _ _ _ h => hFc _ h)
                generalize H1 = H at hP1 hS ⊢
                have hP := hP1
                have hD := hD1
                have hP : va_P D xcl (rp ad E RL) H := hP
                have hD : va_D A (rp ad E RL) := hD
                rcases hp84 with rfl | rfl
                · refine W.eq (g2 := F0 m 134 ls [.int 0]) rfl ?_
                  refine lv_if_ne (tgt := 140) hx hb xd_Sh_acceptGrant_134 (by decide) (fun hc85 => absurd (by decide) hc85) (fun _ => ?_)
                  refine lv_bipush (v := (-2)) hx hb xd_Sh_acceptGrant_137 (by decide) ?_
                  refine W.widen (k := 0) (n := 0) (Nat.le_of_ble_eq_true rfl) (Nat.le_of_ble_eq_true rfl) ?_
                  exact W.iret (v := (-2)) hx hb hr (fun t ht hW => ⟨⟨(-2), (ad, E, RL), rfl, ⟨⟨nd, hCI⟩, rfl⟩, by rw [ht]; exact hP, hD⟩, hS.F ht⟩) hS.2.2 xd_Sh_acceptGrant_139
                · refine W.eq (g2 := F0 m 134 ls [.int 1]) rfl ?_
                  refine lv_if_ne (tgt := 140) hx hb xd_Sh_acceptGrant_134 (by decide) (fun _ => ?_) (fun hc86 => absurd hc86 (by decide))
                  refine lv_aload hx hb xd_Sh_acceptGrant_140 (lv_at hl 0 rfl) ?_
                  refine lv_iload_n hx hb xd_Sh_acceptGrant_142 rfl (lv_at hl 2 rfl) ?_
                  have hFc := px_free hD hS hA
                  refine va_callv (va_runV (As := [.int rc9]) (rest := []) ⟨hx, hb, hml, hown, hT⟩ (xc_Gr_extendTo l D kA H.size ad E RL (1 + z35) (38 + 3 * z71) (39 + 3 * z71) (40 + 3 * z71) ta_74 n_74 f_74 rc9 m_76 c_75 m_78 c_77 m_80 c_79 (by first | assumption | omega) (by first | assumption | omega)) (cwV 1 hT (wT_V yw_65 yw_66 yw_67 yw_63 yw_64) rfl rfl rfl (by decide +kernel) ⟨Nat.le_of_ble_eq_true rfl, Nat.le_of_ble_eq_true rfl⟩) (px_preV hK hP hD m_76 c_75 rfl) rfl rfl hl.1 rfl (lv_room (Nat.le_of_ble_eq_true rfl)) xd_Sh_acceptGrant_143 ⟨(Nat.le_of_ble_eq_true rfl), (Nat.le_of_ble_eq_true rfl)⟩) hS (fun q _ h => hFc q h) hFc (fun u88 t H1 locs ht hvm hp89 hB hz1 hk1 hS => ?_)
                  obtain ⟨hP1, hD1⟩ := hB
                  rw [ht] at hP1
                  have hD1 := hD1.weaken (fun _ _ _ h => hFc _ h)
                  generalize H1 = H at hP1 hS ⊢
                  have hP := hP1
                  have hD := hD1
                  obtain ⟨E90, rfl⟩ : ∃ z, z = u88 := ⟨_, rfl⟩
                  obtain ⟨w91, w92, w93, hp98, p_94, p_95, p_96, p_97⟩ := hp89
                  have p_94 : E90 (1 + z35) (38 + 3 * z71) = .inr (9, [.ref (ad (1 + z35) (39 + 3 * z71)), .int w91]) := p_94
                  have p_95 : E90 (1 + z35) (39 + 3 * z71) = .inr (8, [.ref (ad (1 + z35) (40 + 3 * z71)), .int (nI w92)]) := p_95
                  have p_96 : E90 (1 + z35) (40 + 3 * z71) = .inl (kA 0, 3, .inl w93) := p_96
                  have p_97 : (∀ b2 o2, ¬ (b2 = (1 + z35) ∧ o2 = (38 + 3 * z71)) → ¬ (b2 = (1 + z35) ∧ o2 = (39 + 3 * z71)) → ¬ (b2 = (1 + z35) ∧ o2 = (40 + 3 * z71)) → E90 b2 o2 = E b2 o2) := p_97
                  have c_99 : E90 0 0 = .inr (0, [.ref (ad 0 1), .ref (ad 0 5), .ref (ad 0 7), .ref (ad 0 9), .int (nI ml), .int lf_1]) := (p_97 0 0 (by omega) (by omega) (by omega)).trans c_2
                  have c_100 : E90 0 1 = .inr (1, [.ref (ad 0 2), .ref (ad 0 3), .ref (ad 0 4), .int (nI len), .int (nI wn)]) := (p_97 0 1 (by omega) (by omega) (by omega)).trans c_5
                  have c_101 : E90 0 2 = .inl (kA 1, 40, .inl tx_4) := (p_97 0 2 (by omega) (by omega) (by omega)).trans c_7
                  have c_102 : E90 0 3 = .inl (kA 0, 20, .inl fb_4) := (p_97 0 3 (by omega) (by omega) (by omega)).trans c_9
                  have c_103 : E90 0 4 = .inl (kA 0, 20, .inl fe_4) := (p_97 0 4 (by omega) (by omega) (by omega)).trans c_11
                  have c_104 : E90 0 5 = .inr (2, [.ref (ad 0 6), .int (nI nd)]) := (p_97 0 5 (by omega) (by omega) (by omega)).trans c_14
                  have c_105 : E90 0 6 = .inl (kA 4, 12, .inr (.inr (.inr (.inr fd_13)))) := (p_97 0 6 (by omega) (by omega) (by omega)).trans c_16
                  have c_106 : E90 0 7 = .inr (3, [.ref (ad 0 5), .ref (ad 0 8), .int (nI cs), .int cf_18, pv_18]) := (p_97 0 7 (by omega) (by omega) (by omega)).trans c_19
                  have c_107 : E90 0 8 = .inl (kA 4, 12, .inr (.inr (.inr (.inr fc_18)))) := (p_97 0 8 (by omega) (by omega) (by omega)).trans c_21
                  have c_108 : E90 0 9 = .inl (kA 5, 5, .inr (.inr (.inr (.inr fl_23)))) := (p_97 0 9 (by omega) (by omega) (by omega)).trans c_24
                  have c_109 : E90 (1 + z35) 0 = .inr (7, [.int (nI z35), .int fd_41, .int nm_41, .ref (ad (1 + z35) 1), .ref (ad (1 + z35) 9), .ref (ad (1 + z35) 10), .ref (ad (1 + z35) 2), .ref (ad (1 + z35) 11), .ref (ad (1 + z35) 12), .ref (ad (1 + z35) 3), .ref (ad (1 + z35) 4), .int sd_41]) := (p_97 (1 + z35) 0 (by omega) (by omega) (by omega)).trans c_42
                  have c_110 : E90 (1 + z35) 1 = .inr (8, [.ref (ad (1 + z35) 5), .int (nI k0_41)]) := (p_97 (1 + z35) 1 (by omega) (by omega) (by omega)).trans c_44
                  have c_111 : E90 (1 + z35) 2 = .inr (8, [.ref (ad (1 + z35) 6), .int (nI k1_41)]) := (p_97 (1 + z35) 2 (by omega) (by omega) (by omega)).trans c_46
                  have c_112 : E90 (1 + z35) 3 = .inr (8, [.ref (ad (1 + z35) 7), .int (nI k2_41)]) := (p_97 (1 + z35) 3 (by omega) (by omega) (by omega)).trans c_48
                  have c_113 : E90 (1 + z35) 4 = .inr (8, [.ref (ad (1 + z35) 8), .int (nI k3_41)]) := (p_97 (1 + z35) 4 (by omega) (by omega) (by omega)).trans c_50
                  have c_114 : E90 (1 + z35) 5 = .inl (kA 0, 6, .inl f0_41) := (p_97 (1 + z35) 5 (by omega) (by omega) (by omega)).trans c_52
                  have c_115 : E90 (1 + z35) 6 = .inl (kA 0, 5, .inl f1_41) := (p_97 (1 + z35) 6 (by omega) (by omega) (by omega)).trans c_54
                  have c_116 : E90 (1 + z35) 7 = .inl (kA 0, 3, .inl f2_41) := (p_97 (1 + z35) 7 (by omega) (by omega) (by omega)).trans c_56
                  have c_117 : E90 (1 + z35) 8 = .inl (kA 0, 3, .inl f3_41) := (p_97 (1 + z35) 8 (by omega) (by omega) (by omega)).trans c_58
                  have c_118 : E90 (1 + z35) 9 = .inl (kA 8, 6, .inr (.inr (.inr (.inr fe_41)))) := (p_97 (1 + z35) 9 (by omega) (by omega) (by omega)).trans c_60
                  have c_119 : E90 (1 + z35) 10 = .inl (kA 8, 6, .inr (.inr (.inr (.inr fo_41)))) := (p_97 (1 + z35) 10 (by omega) (by omega) (by omega)).trans c_62
                  have c_120 : E90 (1 + z35) 11 = .inl (kA 2, 5, .inl tr_41) := (p_97 (1 + z35) 11 (by omega) (by omega) (by omega)).trans c_64
                  have c_121 : E90 (1 + z35) 12 = .inl (kA 2, 5, .inl op_41) := (p_97 (1 + z35) 12 (by omega) (by omega) (by omega)).trans c_66
                  have hP : va_P D xcl (rp ad E90 RL) H := hP
                  have hD : va_D A (rp ad E90 RL) := hD
                  have hCI : CI kA ad E90 RL ml nd len wn cs := ⟨hmB, ⟨lf_1, c_99⟩, ⟨tx_4, fb_4, fe_4, (by omega), (by omega), c_100, c_101, c_102, c_103, hws_4⟩, ⟨fd_13, (by omega), c_104, c_105, hds_13⟩, ⟨cf_18, pv_18, fc_18, (by omega), hpv_18, c_106, c_107, hfc_18⟩, ⟨fl_23, (by omega), c_108, hla_23⟩, (DIs_set (x := z35) (fun d9 hd9 hx9 => fun2 fun o9 => by show E90 (1 + d9) o9 = _; rw [p_97 (1 + d9) o9 (by omega) (by omega) (by omega)]) (fun _ _ _ => rfl) (fun _ h => h) (DI_gr (o0 := 38) (i := z71) (hDIs z35 (by omega)) (by omega) (by omega) (fun o9 h19 h29 h39 => by show E90 (1 + z35) o9 = _; rw [p_97 (1 + z35) o9 (by omega) (by omega) (by omega)]) ⟨m_76, m_78, m_80, w91, w92, w93, hp98, p_94, p_95, p_96⟩) hDIs), (LIs_same (Nat.le_refl _) (fun n9 hn9 => fun2 fun o9 => by show E90 (20 + n9) o9 = _; rw [p_97 (20 + n9) o9 (by omega) (by omega) (by omega)]) (fun _ _ => rfl) (fun _ _ => rfl) (fun _ h9 => h9) hLIs)⟩
                  obtain ⟨hmB, hDk, hLi, hSh, hCh, hLa, hDIs, hLIs⟩ := id hCI
                  refine lv_iconst (v := 2) hx hb xd_Sh_acceptGrant_146 (by decide) ?_
                  refine W.widen (k := 0) (n := 0) (Nat.le_of_ble_eq_true rfl) (Nat.le_of_ble_eq_true rfl) ?_
                  exact W.iret (v := 2) hx hb hr (fun t ht hW => ⟨⟨2, (ad, E90, RL), rfl, ⟨⟨nd, hCI⟩, rfl⟩, by rw [ht]; exact hP, hD⟩, hS.F ht⟩) hS.2.2 xd_Sh_acceptGrant_147
          · refine W.eq (g2 := F0 m 93 ls [.int 1]) rfl ?_
            refine lv_if_eq (tgt := 105) hx hb xd_Sh_acceptGrant_93 (by decide) (fun hc122 => absurd hc122 (by decide)) (fun _ => ?_)
            refine lv_aload hx hb xd_Sh_acceptGrant_96 (lv_at hl 0 rfl) ?_
            refine lv_iload_n hx hb xd_Sh_acceptGrant_98 rfl (lv_at hl 2 rfl) ?_
            have hFc := px_free hD hS hA
            obtain ⟨hm_123, fd_123, nm_123, sd_123, k0_123, k1_123, k2_123, k3_123, f0_123, f1_123, f2_123, f3_123, fe_123, fo_123, tr_123, op_123, hk0_123, hk1_123, hk2_123, hk3_123, q0_123, q1_123, q2_123, q3_123, q4_123, q5_123, q6_123, q7_123, q8_123, q9_123, q10_123, q11_123, q12_123, hg_123⟩ := id (hDIs z35 (by omega))
            have c_124 : E (1 + z35) 0 = .inr (7, [.int (nI z35), .int fd_123, .int nm_123, .ref (ad (1 + z35) 1), .ref (ad (1 + z35) 9), .ref (ad (1 + z35) 10), .ref (ad (1 + z35) 2), .ref (ad (1 + z35) 11), .ref (ad (1 + z35) 12), .ref (ad (1 + z35) 3), .ref (ad (1 + z35) 4), .int sd_123]) := q0_123
            have m_125 : (1 + z35, 0) ∈ RL := hm_123 0 (by omega)
            have c_126 : E (1 + z35) 1 = .inr (8, [.ref (ad (1 + z35) 5), .int (nI k0_123)]) := q1_123
            have m_127 : (1 + z35, 1) ∈ RL := hm_123 1 (by omega)
            have c_128 : E (1 + z35) 2 = .inr (8, [.ref (ad (1 + z35) 6), .int (nI k1_123)]) := q2_123
            have m_129 : (1 + z35, 2) ∈ RL := hm_123 2 (by omega)
            have c_130 : E (1 + z35) 3 = .inr (8, [.ref (ad (1 + z35) 7), .int (nI k2_123)]) := q3_123
            have m_131 : (1 + z35, 3) ∈ RL := hm_123 3 (by omega)
            have c_132 : E (1 + z35) 4 = .inr (8, [.ref (ad (1 + z35) 8), .int (nI k3_123)]) := q4_123
            have m_133 : (1 + z35, 4) ∈ RL := hm_123 4 (by omega)
            have c_134 : E (1 + z35) 5 = .inl (kA 0, 6, .inl f0_123) := q5_123
            have m_135 : (1 + z35, 5) ∈ RL := hm_123 5 (by omega)
            have c_136 : E (1 + z35) 6 = .inl (kA 0, 5, .inl f1_123) := q6_123
            have m_137 : (1 + z35, 6) ∈ RL := hm_123 6 (by omega)
            have c_138 : E (1 + z35) 7 = .inl (kA 0, 3, .inl f2_123) := q7_123
            have m_139 : (1 + z35, 7) ∈ RL := hm_123 7 (by omega)
            have c_140 : E (1 + z35) 8 = .inl (kA 0, 3, .inl f3_123) := q8_123
            have m_141 : (1 + z35, 8) ∈ RL := hm_123 8 (by omega)
            have c_142 : E (1 + z35) 9 = .inl (kA 8, 6, .inr (.inr (.inr (.inr fe_123)))) := q9_123
            have m_143 : (1 + z35, 9) ∈ RL := hm_123 9 (by omega)
            have c_144 : E (1 + z35) 10 = .inl (kA 8, 6, .inr (.inr (.inr (.inr fo_123)))) := q10_123
            have m_145 : (1 + z35, 10) ∈ RL := hm_123 10 (by omega)
            have c_146 : E (1 + z35) 11 = .inl (kA 2, 5, .inl tr_123) := q11_123
            have m_147 : (1 + z35, 11) ∈ RL := hm_123 11 (by omega)
            have c_148 : E (1 + z35) 12 = .inl (kA 2, 5, .inl op_123) := q12_123
            have m_149 : (1 + z35, 12) ∈ RL := hm_123 12 (by omega)
            have hg_123 : ∀ w9, w9 < k0_123 → fe_123 w9 = some (ad (1 + z35) (20 + 3 * w9)) ∧ fo_123 w9 = some (ad (1 + z35) (38 + 3 * w9)) ∧ GI kA (ad (1 + z35)) (E (1 + z35)) (fun o => (1 + z35, o) ∈ RL) (20 + 3 * w9) (21 + 3 * w9) (22 + 3 * w9) ∧ GI kA (ad (1 + z35)) (E (1 + z35)) (fun o => (1 + z35, o) ∈ RL) (38 + 3 * w9) (39 + 3 * w9) (40 + 3 * w9) := hg_123
            refine va_callq (va_runV (As := [.int nm9]) (rest := []) ⟨hx, hb, hml, hown, hT⟩ (xc_Ds_exportOf l D kA H.size ad E RL nd z35 nm9 (by first | assumption | omega) (by first | assumption | omega)) (cwV 1 hT (wT_V yw_69 yw_70 yw_71 yw_32 yw_68) rfl rfl rfl (by decide +kernel) ⟨Nat.le_of_ble_eq_true rfl, Nat.le_of_ble_eq_true rfl⟩) (px_preV hK hP hD m_125 c_124 rfl) rfl rfl hl.1 rfl (lv_room (Nat.le_of_ble_eq_true rfl)) xd_Sh_acceptGrant_99 ⟨(Nat.le_of_ble_eq_true rfl), (Nat.le_of_ble_eq_true rfl)⟩) hS (fun q _ h => hFc q h) hFc (fun r150 u151 t H1 locs ht hvm hp152 hB hz1 hk1 hS => ?_)
            obtain ⟨hP1, hD1⟩ := hB
            rw [ht] at hP1
            have hD1 := hD1.weaken (fun _ _ _ h => hFc _ h)
            generalize H1 = H at hP1 hS ⊢
            have hP := hP1
            have hD := hD1
            have hP : va_P D xcl (rp ad E RL) H := hP
            have hD : va_D A (rp ad E RL) := hD
            rcases hp152 with rfl | ⟨z153, z154, rfl, z155⟩
            · refine W.eq (g2 := F0 m 102 ls [.null]) rfl ?_
              refine lv_goto (tgt := 111) hx hb xd_Sh_acceptGrant_102 (by decide) ?_
              refine lv_astoreN hx hb xd_Sh_acceptGrant_111 hl (Nat.le_of_ble_eq_true rfl) rfl (fun ls hl => ?_)
              have hl : lv_has ls 7 [(6, .null), (5, .ref (ad (1 + z35) 0)), (3, .int rc9), (2, .int nm9), (1, .ref (ad 0 1)), (0, .ref (ad 0 5))] := hl
              refine lv_aloadN hx hb xd_Sh_acceptGrant_113 (lv_at hl 0 rfl) ?_
              refine lv_ifnonnullN hx hb xd_Sh_acceptGrant_115 ?_
              refine lv_iconst (v := (-1)) hx hb xd_Sh_acceptGrant_118 (by decide) ?_
              refine W.widen (k := 0) (n := 0) (Nat.le_of_ble_eq_true rfl) (Nat.le_of_ble_eq_true rfl) ?_
              exact W.iret (v := (-1)) hx hb hr (fun t ht hW => ⟨⟨(-1), (ad, E, RL), rfl, ⟨⟨nd, hCI⟩, rfl⟩, by rw [ht]; exact hP, hD⟩, hS.F ht⟩) hS.2.2 xd_Sh_acceptGrant_119
            · refine W.eq (g2 := F0 m 102 ls [.ref (ad (1 + z35) (20 + 3 * z153))]) rfl ?_
              obtain ⟨m0_156, m1_156, m2_156, ta_156, n_156, f_156, hn_156, q0_156, q1_156, q2_156⟩ := z155
              have c_157 : E (1 + z35) (20 + 3 * z153) = .inr (9, [.ref (ad (1 + z35) (21 + 3 * z153)), .int ta_156]) := q0_156
              have m_158 : (1 + z35, 20 + 3 * z153) ∈ RL := m0_156
              have c_159 : E (1 + z35) (21 + 3 * z153) = .inr (8, [.ref (ad (1 + z35) (22 + 3 * z153)), .int (nI n_156)]) := q1_156
              have m_160 : (1 + z35, 21 + 3 * z153) ∈ RL := m1_156
              have c_161 : E (1 + z35) (22 + 3 * z153) = .inl (kA 0, 3, .inl f_156) := q2_156
              have m_162 : (1 + z35, 22 + 3 * z153) ∈ RL := m2_156
              refine lv_goto (tgt := 111) hx hb xd_Sh_acceptGrant_102 (by decide) ?_
              refine lv_astore hx hb xd_Sh_acceptGrant_111 hl (Nat.le_of_ble_eq_true rfl) rfl (fun ls hl => ?_)
              have hl : lv_has ls 7 [(6, .ref (ad (1 + z35) (20 + 3 * z153))), (5, .ref (ad (1 + z35) 0)), (3, .int rc9), (2, .int nm9), (1, .ref (ad 0 1)), (0, .ref (ad 0 5))] := hl
              refine lv_aload hx hb xd_Sh_acceptGrant_113 (lv_at hl 0 rfl) ?_
              refine lv_ifnonnull (tgt := 120) hx hb xd_Sh_acceptGrant_115 (by decide) ?_
              refine lv_aload hx hb xd_Sh_acceptGrant_120 (lv_at hl 1 rfl) ?_
              refine px_get (D := D) (ci := 7) (v := .int sd_123) (C := xR_Ds) (T := xT_Ds) (N := 12) hx hb hT xi_Ds hown hK.1 hP m_125 c_124 rfl 11 (by decide) (hT _ yw_46) (fun _ h9 => h9) rfl xd_Sh_acceptGrant_122 ?_
              refine lv_if_ne (tgt := 137) hx hb xd_Sh_acceptGrant_125 (by decide) (fun hc163 => ?_) (fun hc163 => ?_)
              · refine lv_bipush (v := (-2)) hx hb xd_Sh_acceptGrant_137 (by decide) ?_
                refine W.widen (k := 0) (n := 0) (Nat.le_of_ble_eq_true rfl) (Nat.le_of_ble_eq_true rfl) ?_
                exact W.iret (v := (-2)) hx hb hr (fun t ht hW => ⟨⟨(-2), (ad, E, RL), rfl, ⟨⟨nd, hCI⟩, rfl⟩, by rw [ht]; exact hP, hD⟩, hS.F ht⟩) hS.2.2 xd_Sh_acceptGrant_139
              · refine lv_aload hx hb xd_Sh_acceptGrant_128 (lv_at hl 0 rfl) ?_
                refine lv_iload_n hx hb xd_Sh_acceptGrant_130 rfl (lv_at hl 2 rfl) ?_
                have hFc := px_free hD hS hA
                refine va_calli (va_runV (As := [.int rc9]) (rest := []) ⟨hx, hb, hml, hown, hT⟩ (xc_Gr_hasRoomFor l D kA H.size ad E RL (1 + z35) (20 + 3 * z153) (21 + 3 * z153) (22 + 3 * z153) ta_156 n_156 f_156 rc9 m_158 c_157 m_160 c_159 m_162 c_161 (by first | assumption | omega)) (cwV 1 hT (wT_V yw_60 yw_61 yw_62 yw_63 yw_59) rfl rfl rfl (by decide +kernel) ⟨Nat.le_of_ble_eq_true rfl, Nat.le_of_ble_eq_true rfl⟩) (px_preV hK hP hD m_158 c_157 rfl) rfl rfl hl.1 rfl (lv_room (Nat.le_of_ble_eq_true rfl)) xd_Sh_acceptGrant_131 ⟨(Nat.le_of_ble_eq_true rfl), (Nat.le_of_ble_eq_true rfl)⟩) hS (fun q _ h => hFc q h) hFc (fun r164 u165 t H1 locs ht hvm hp166 hB hz1 hk1 hS => ?_)
                obtain ⟨hP1, hD1⟩ := hB
                rw [ht] at hP1
                have hD1 := hD1.weaken (fun _ _ _ h => hFc _ h)
                generalize H1 = H at hP1 hS ⊢
                have hP := hP1
                have hD := hD1
                have hP : va_P D xcl (rp ad E RL) H := hP
                have hD : va_D A (rp ad E RL) := hD
                rcases hp166 with rfl | rfl
                · refine W.eq (g2 := F0 m 134 ls [.int 0]) rfl ?_
                  refine lv_if_ne (tgt := 140) hx hb xd_Sh_acceptGrant_134 (by decide) (fun hc167 => absurd (by decide) hc167) (fun _ => ?_)
                  refine lv_bipush (v := (-2)) hx hb xd_Sh_acceptGrant_137 (by decide) ?_
                  refine W.widen (k := 0) (n := 0) (Nat.le_of_ble_eq_true rfl) (Nat.le_of_ble_eq_true rfl) ?_
                  exact W.iret (v := (-2)) hx hb hr (fun t ht hW => ⟨⟨(-2), (ad, E, RL), rfl, ⟨⟨nd, hCI⟩, rfl⟩, by rw [ht]; exact hP, hD⟩, hS.F ht⟩) hS.2.2 xd_Sh_acceptGrant_139
                · refine W.eq (g2 := F0 m 134 ls [.int 1]) rfl ?_
                  refine lv_if_ne (tgt := 140) hx hb xd_Sh_acceptGrant_134 (by decide) (fun _ => ?_) (fun hc168 => absurd hc168 (by decide))
                  refine lv_aload hx hb xd_Sh_acceptGrant_140 (lv_at hl 0 rfl) ?_
                  refine lv_iload_n hx hb xd_Sh_acceptGrant_142 rfl (lv_at hl 2 rfl) ?_
                  have hFc := px_free hD hS hA
                  refine va_callv (va_runV (As := [.int rc9]) (rest := []) ⟨hx, hb, hml, hown, hT⟩ (xc_Gr_extendTo l D kA H.size ad E RL (1 + z35) (20 + 3 * z153) (21 + 3 * z153) (22 + 3 * z153) ta_156 n_156 f_156 rc9 m_158 c_157 m_160 c_159 m_162 c_161 (by first | assumption | omega) (by first | assumption | omega)) (cwV 1 hT (wT_V yw_65 yw_66 yw_67 yw_63 yw_64) rfl rfl rfl (by decide +kernel) ⟨Nat.le_of_ble_eq_true rfl, Nat.le_of_ble_eq_true rfl⟩) (px_preV hK hP hD m_158 c_157 rfl) rfl rfl hl.1 rfl (lv_room (Nat.le_of_ble_eq_true rfl)) xd_Sh_acceptGrant_143 ⟨(Nat.le_of_ble_eq_true rfl), (Nat.le_of_ble_eq_true rfl)⟩) hS (fun q _ h => hFc q h) hFc (fun u170 t H1 locs ht hvm hp171 hB hz1 hk1 hS => ?_)
                  obtain ⟨hP1, hD1⟩ := hB
                  rw [ht] at hP1
                  have hD1 := hD1.weaken (fun _ _ _ h => hFc _ h)
                  generalize H1 = H at hP1 hS ⊢
                  have hP := hP1
                  have hD := hD1
                  obtain ⟨E172, rfl⟩ : ∃ z, z = u170 := ⟨_, rfl⟩
                  obtain ⟨w173, w174, w175, hp180, p_176, p_177, p_178, p_179⟩ := hp171
                  have p_176 : E172 (1 + z35) (20 + 3 * z153) = .inr (9, [.ref (ad (1 + z35) (21 + 3 * z153)), .int w173]) := p_176
                  have p_177 : E172 (1 + z35) (21 + 3 * z153) = .inr (8, [.ref (ad (1 + z35) (22 + 3 * z153)), .int (nI w174)]) := p_177
                  have p_178 : E172 (1 + z35) (22 + 3 * z153) = .inl (kA 0, 3, .inl w175) := p_178
                  have p_179 : (∀ b2 o2, ¬ (b2 = (1 + z35) ∧ o2 = (20 + 3 * z153)) → ¬ (b2 = (1 + z35) ∧ o2 = (21 + 3 * z153)) → ¬ (b2 = (1 + z35) ∧ o2 = (22 + 3 * z153)) → E172 b2 o2 = E b2 o2) := p_179
                  have c_181 : E172 0 0 = .inr (0, [.ref (ad 0 1), .ref (ad 0 5), .ref (ad 0 7), .ref (ad 0 9), .int (nI ml), .int lf_1]) := (p_179 0 0 (by omega) (by omega) (by omega)).trans c_2
                  have c_182 : E172 0 1 = .inr (1, [.ref (ad 0 2), .ref (ad 0 3), .ref (ad 0 4), .int (nI len), .int (nI wn)]) := (p_179 0 1 (by omega) (by omega) (by omega)).trans c_5
                  have c_183 : E172 0 2 = .inl (kA 1, 40, .inl tx_4) := (p_179 0 2 (by omega) (by omega) (by omega)).trans c_7
                  have c_184 : E172 0 3 = .inl (kA 0, 20, .inl fb_4) := (p_179 0 3 (by omega) (by omega) (by omega)).trans c_9
                  have c_185 : E172 0 4 = .inl (kA 0, 20, .inl fe_4) := (p_179 0 4 (by omega) (by omega) (by omega)).trans c_11
                  have c_186 : E172 0 5 = .inr (2, [.ref (ad 0 6), .int (nI nd)]) := (p_179 0 5 (by omega) (by omega) (by omega)).trans c_14
                  have c_187 : E172 0 6 = .inl (kA 4, 12, .inr (.inr (.inr (.inr fd_13)))) := (p_179 0 6 (by omega) (by omega) (by omega)).trans c_16
                  have c_188 : E172 0 7 = .inr (3, [.ref (ad 0 5), .ref (ad 0 8), .int (nI cs), .int cf_18, pv_18]) := (p_179 0 7 (by omega) (by omega) (by omega)).trans c_19
                  have c_189 : E172 0 8 = .inl (kA 4, 12, .inr (.inr (.inr (.inr fc_18)))) := (p_179 0 8 (by omega) (by omega) (by omega)).trans c_21
                  have c_190 : E172 0 9 = .inl (kA 5, 5, .inr (.inr (.inr (.inr fl_23)))) := (p_179 0 9 (by omega) (by omega) (by omega)).trans c_24
                  have c_191 : E172 (1 + z35) 0 = .inr (7, [.int (nI z35), .int fd_123, .int nm_123, .ref (ad (1 + z35) 1), .ref (ad (1 + z35) 9), .ref (ad (1 + z35) 10), .ref (ad (1 + z35) 2), .ref (ad (1 + z35) 11), .ref (ad (1 + z35) 12), .ref (ad (1 + z35) 3), .ref (ad (1 + z35) 4), .int sd_123]) := (p_179 (1 + z35) 0 (by omega) (by omega) (by omega)).trans c_124
                  have c_192 : E172 (1 + z35) 1 = .inr (8, [.ref (ad (1 + z35) 5), .int (nI k0_123)]) := (p_179 (1 + z35) 1 (by omega) (by omega) (by omega)).trans c_126
                  have c_193 : E172 (1 + z35) 2 = .inr (8, [.ref (ad (1 + z35) 6), .int (nI k1_123)]) := (p_179 (1 + z35) 2 (by omega) (by omega) (by omega)).trans c_128
                  have c_194 : E172 (1 + z35) 3 = .inr (8, [.ref (ad (1 + z35) 7), .int (nI k2_123)]) := (p_179 (1 + z35) 3 (by omega) (by omega) (by omega)).trans c_130
                  have c_195 : E172 (1 + z35) 4 = .inr (8, [.ref (ad (1 + z35) 8), .int (nI k3_123)]) := (p_179 (1 + z35) 4 (by omega) (by omega) (by omega)).trans c_132
                  have c_196 : E172 (1 + z35) 5 = .inl (kA 0, 6, .inl f0_123) := (p_179 (1 + z35) 5 (by omega) (by omega) (by omega)).trans c_134
                  have c_197 : E172 (1 + z35) 6 = .inl (kA 0, 5, .inl f1_123) := (p_179 (1 + z35) 6 (by omega) (by omega) (by omega)).trans c_136
                  have c_198 : E172 (1 + z35) 7 = .inl (kA 0, 3, .inl f2_123) := (p_179 (1 + z35) 7 (by omega) (by omega) (by omega)).trans c_138
                  have c_199 : E172 (1 + z35) 8 = .inl (kA 0, 3, .inl f3_123) := (p_179 (1 + z35) 8 (by omega) (by omega) (by omega)).trans c_140
                  have c_200 : E172 (1 + z35) 9 = .inl (kA 8, 6, .inr (.inr (.inr (.inr fe_123)))) := (p_179 (1 + z35) 9 (by omega) (by omega) (by omega)).trans c_142
                  have c_201 : E172 (1 + z35) 10 = .inl (kA 8, 6, .inr (.inr (.inr (.inr fo_123)))) := (p_179 (1 + z35) 10 (by omega) (by omega) (by omega)).trans c_144
                  have c_202 : E172 (1 + z35) 11 = .inl (kA 2, 5, .inl tr_123) := (p_179 (1 + z35) 11 (by omega) (by omega) (by omega)).trans c_146
                  have c_203 : E172 (1 + z35) 12 = .inl (kA 2, 5, .inl op_123) := (p_179 (1 + z35) 12 (by omega) (by omega) (by omega)).trans c_148
                  have hP : va_P D xcl (rp ad E172 RL) H := hP
                  have hD : va_D A (rp ad E172 RL) := hD
                  have hCI : CI kA ad E172 RL ml nd len wn cs := ⟨hmB, ⟨lf_1, c_181⟩, ⟨tx_4, fb_4, fe_4, (by omega), (by omega), c_182, c_183, c_184, c_185, hws_4⟩, ⟨fd_13, (by omega), c_186, c_187, hds_13⟩, ⟨cf_18, pv_18, fc_18, (by omega), hpv_18, c_188, c_189, hfc_18⟩, ⟨fl_23, (by omega), c_190, hla_23⟩, (DIs_set (x := z35) (fun d9 hd9 hx9 => fun2 fun o9 => by show E172 (1 + d9) o9 = _; rw [p_179 (1 + d9) o9 (by omega) (by omega) (by omega)]) (fun _ _ _ => rfl) (fun _ h => h) (DI_gr (o0 := 20) (i := z153) (hDIs z35 (by omega)) (by omega) (by omega) (fun o9 h19 h29 h39 => by show E172 (1 + z35) o9 = _; rw [p_179 (1 + z35) o9 (by omega) (by omega) (by omega)]) ⟨m_158, m_160, m_162, w173, w174, w175, hp180, p_176, p_177, p_178⟩) hDIs), (LIs_same (Nat.le_refl _) (fun n9 hn9 => fun2 fun o9 => by show E172 (20 + n9) o9 = _; rw [p_179 (20 + n9) o9 (by omega) (by omega) (by omega)]) (fun _ _ => rfl) (fun _ _ => rfl) (fun _ h9 => h9) hLIs)⟩
                  obtain ⟨hmB, hDk, hLi, hSh, hCh, hLa, hDIs, hLIs⟩ := id hCI
                  refine lv_iconst (v := 2) hx hb xd_Sh_acceptGrant_146 (by decide) ?_
                  refine W.widen (k := 0) (n := 0) (Nat.le_of_ble_eq_true rfl) (Nat.le_of_ble_eq_true rfl) ?_
                  exact W.iret (v := 2) hx hb hr (fun t ht hW => ⟨⟨2, (ad, E172, RL), rfl, ⟨⟨nd, hCI⟩, rfl⟩, by rw [ht]; exact hP, hD⟩, hS.F ht⟩) hS.2.2 xd_Sh_acceptGrant_147
      refine lv_iload_n hx hb xd_Sh_acceptGrant_53 rfl (lv_at hl 2 rfl) ?_
      refine lv_if_eq (tgt := 70) hx hb xd_Sh_acceptGrant_54 (by decide) (fun hc204 => ?_) (fun hc204 => ?_)
      · refine lv_iconst (v := (-1)) hx hb xd_Sh_acceptGrant_70 (by decide) ?_
        refine W.widen (k := 0) (n := 0) (Nat.le_of_ble_eq_true rfl) (Nat.le_of_ble_eq_true rfl) ?_
        exact W.iret (v := (-1)) hx hb hr (fun t ht hW => ⟨⟨(-1), (ad, E, RL), rfl, ⟨⟨nd, hCI⟩, rfl⟩, by rw [ht]; exact hP, hD⟩, hS.F ht⟩) hS.2.2 xd_Sh_acceptGrant_71
      · refine lv_aload_n hx hb xd_Sh_acceptGrant_57 rfl (lv_at hl 3 rfl) ?_
        refine px_get (D := D) (ci := 1) (v := .int (nI wn)) (C := xR_Li) (T := xT_Li) (N := 5) hx hb hT xi_Li hown hK.1 hP m_6 c_5 rfl 4 (by decide) (hT _ yw_22) (fun _ h9 => h9) rfl xd_Sh_acceptGrant_58 ?_
        refine lv_iconst (v := 2) hx hb xd_Sh_acceptGrant_61 (by decide) ?_
        refine xn_eq (a := wn) (b := 2) (tgt := 72) hx hb xd_Sh_acceptGrant_62 (by decide) (by omega) (by omega) (fun hc205 => ?_) (fun hc205 => ?_)
        · exact jn31 () _ _ _ (lv_sub hl [1, 2, 3, 4] rfl) hP hD hS trivial
        · refine lv_iload hx hb xd_Sh_acceptGrant_65 (lv_at hl 0 rfl) ?_
          refine lv_if_ne (tgt := 72) hx hb xd_Sh_acceptGrant_67 (by decide) (fun hc206 => ?_) (fun hc206 => ?_)
          · exact jn31 () _ _ _ (lv_sub hl [1, 2, 3, 4] rfl) hP hD hS trivial
          · refine lv_iconst (v := (-1)) hx hb xd_Sh_acceptGrant_70 (by decide) ?_
            refine W.widen (k := 0) (n := 0) (Nat.le_of_ble_eq_true rfl) (Nat.le_of_ble_eq_true rfl) ?_
            exact W.iret (v := (-1)) hx hb hr (fun t ht hW => ⟨⟨(-1), (ad, E, RL), rfl, ⟨⟨nd, hCI⟩, rfl⟩, by rw [ht]; exact hP, hD⟩, hS.F ht⟩) hS.2.2 xd_Sh_acceptGrant_71
    refine lv_aload_n hx hb xd_Sh_acceptGrant_24 rfl (lv_at hl 2 rfl) ?_
    refine px_get (D := D) (ci := 1) (v := .int (nI wn)) (C := xR_Li) (T := xT_Li) (N := 5) hx hb hT xi_Li hown hK.1 hP m_6 c_5 rfl 4 (by decide) (hT _ yw_22) (fun _ h9 => h9) rfl xd_Sh_acceptGrant_25 ?_
    refine lv_iconst (v := 4) hx hb xd_Sh_acceptGrant_28 (by decide) ?_
    refine xn_ne (a := wn) (b := 4) (tgt := 50) hx hb xd_Sh_acceptGrant_29 (by decide) (by omega) (by omega) (fun hc207 => ?_) (fun hc207 => ?_)
    · refine lv_iconst (v := 0) hx hb xd_Sh_acceptGrant_50 (by decide) ?_
      refine lv_istore hx hb xd_Sh_acceptGrant_51 hl (Nat.le_of_ble_eq_true rfl) rfl (fun ls hl => ?_)
      have hl : lv_has ls 7 [(4, .int 0), (3, .int rc9), (2, .int nm9), (1, .ref (ad 0 1)), (0, .ref (ad 0 5))] := hl
      exact jn30 0 _ _ _ (lv_sub hl [0, 1, 2, 3, 4] rfl) hP hD hS trivial
    · refine lv_aload_n hx hb xd_Sh_acceptGrant_32 rfl (lv_at hl 2 rfl) ?_
      refine lv_iconst (v := 2) hx hb xd_Sh_acceptGrant_33 (by decide) ?_
      refine va_ldcS (q := Z.1 9) hx hb hown hZ.2.2.2.1.2.2.2.2.2.2.2.2.2.1 xd_Sh_acceptGrant_34 ?_
      have hFc := px_free hD hS hA
      refine va_calli (va_runV (As := [.int 2, .ref (Z.1 9)]) (rest := []) ⟨hx, hb, hml, hown, hT⟩ (xc_Li_wordIs l D kA H.size ad E RL Z ml nd len wn cs 2 9 (by first | assumption | omega) (by first | assumption | omega)) (cwV 2 hT (wT_V yw_14 yw_15 yw_16 yw_17 yw_13) rfl rfl rfl (by decide +kernel) ⟨Nat.le_of_ble_eq_true rfl, Nat.le_of_ble_eq_true rfl⟩) (px_preVZ hK hP hD m_6 c_5 rfl hFc (hZ.kept hS)) rfl rfl hl.1 rfl (lv_room (Nat.le_of_ble_eq_true rfl)) xd_Sh_acceptGrant_36 ⟨(Nat.le_of_ble_eq_true rfl), (Nat.le_of_ble_eq_true rfl)⟩) hS (fun q _ h => hFc q h) hFc (fun r208 u209 t H1 locs ht hvm hp210 hB hz1 hk1 hS => ?_)
      obtain ⟨hP1, hD1⟩ := hB
      rw [ht] at hP1
      have hD1 := hD1.weaken (fun _ _ _ h => hFc _ h)
      generalize H1 = H at hP1 hS ⊢
      have hP := hP1
      have hD := hD1
      have hP : va_P D xcl (rp ad E RL) H := hP
      have hD : va_D A (rp ad E RL) := hD
      rcases hp210 with rfl | rfl
      · refine W.eq (g2 := F0 m 39 ls [.int 0]) rfl ?_
        refine lv_if_eq (tgt := 50) hx hb xd_Sh_acceptGrant_39 (by decide) (fun _ => ?_) (fun hc211 => absurd (by decide) hc211)
        refine lv_iconst (v := 0) hx hb xd_Sh_acceptGrant_50 (by decide) ?_
        refine lv_istore hx hb xd_Sh_acceptGrant_51 hl (Nat.le_of_ble_eq_true rfl) rfl (fun ls hl => ?_)
        have hl : lv_has ls 7 [(4, .int 0), (3, .int rc9), (2, .int nm9), (1, .ref (ad 0 1)), (0, .ref (ad 0 5))] := hl
        exact jn30 0 _ _ _ (lv_sub hl [0, 1, 2, 3, 4] rfl) hP hD hS trivial
      · refine W.eq (g2 := F0 m 39 ls [.int 1]) rfl ?_
        refine lv_if_eq (tgt := 50) hx hb xd_Sh_acceptGrant_39 (by decide) (fun hc212 => absurd hc212 (by decide)) (fun _ => ?_)
        refine lv_iload_n hx hb xd_Sh_acceptGrant_42 rfl (lv_at hl 0 rfl) ?_
        refine lv_if_eq (tgt := 50) hx hb xd_Sh_acceptGrant_43 (by decide) (fun hc213 => ?_) (fun hc213 => ?_)
        · refine lv_iconst (v := 0) hx hb xd_Sh_acceptGrant_50 (by decide) ?_
          refine lv_istore hx hb xd_Sh_acceptGrant_51 hl (Nat.le_of_ble_eq_true rfl) rfl (fun ls hl => ?_)
          have hl : lv_has ls 7 [(4, .int 0), (3, .int rc9), (2, .int nm9), (1, .ref (ad 0 1)), (0, .ref (ad 0 5))] := hl
          exact jn30 0 _ _ _ (lv_sub hl [0, 1, 2, 3, 4] rfl) hP hD hS trivial
        · refine lv_iconst (v := 1) hx hb xd_Sh_acceptGrant_46 (by decide) ?_
          refine lv_goto (tgt := 51) hx hb xd_Sh_acceptGrant_47 (by decide) ?_
          refine lv_istore hx hb xd_Sh_acceptGrant_51 hl (Nat.le_of_ble_eq_true rfl) rfl (fun ls hl => ?_)
          have hl : lv_has ls 7 [(4, .int 1), (3, .int rc9), (2, .int nm9), (1, .ref (ad 0 1)), (0, .ref (ad 0 5))] := hl
          exact jn30 1 _ _ _ (lv_sub hl [0, 1, 2, 3, 4] rfl) hP hD hS trivial
  refine lv_aload_n hx hb xd_Sh_acceptGrant_6 rfl (lv_at hl 2 rfl) ?_
  refine px_get (D := D) (ci := 1) (v := .int (nI wn)) (C := xR_Li) (T := xT_Li) (N := 5) hx hb hT xi_Li hown hK.1 hP m_6 c_5 rfl 4 (by decide) (hT _ yw_22) (fun _ h9 => h9) rfl xd_Sh_acceptGrant_7 ?_
  refine lv_iconst (v := 2) hx hb xd_Sh_acceptGrant_10 (by decide) ?_
  refine xn_ne (a := wn) (b := 2) (tgt := 18) hx hb xd_Sh_acceptGrant_11 (by decide) (by omega) (by omega) (fun hc214 => ?_) (fun hc214 => ?_)
  · refine lv_aload_n hx hb xd_Sh_acceptGrant_18 rfl (lv_at hl 2 rfl) ?_
    refine lv_iconst (v := 3) hx hb xd_Sh_acceptGrant_19 (by decide) ?_
    have hFc := px_free hD hS hA
    refine va_calli (va_runV (As := [.int 3]) (rest := []) ⟨hx, hb, hml, hown, hT⟩ (xc_Li_nameAt l D kA H.size ad E RL ml nd len wn cs 3 (by first | assumption | omega)) (cwV 1 hT (wT_V yw_19 yw_20 yw_21 yw_17 yw_18) rfl rfl rfl (by decide +kernel) ⟨Nat.le_of_ble_eq_true rfl, Nat.le_of_ble_eq_true rfl⟩) (px_preV hK hP hD m_6 c_5 rfl) rfl rfl hl.1 rfl (lv_room (Nat.le_of_ble_eq_true rfl)) xd_Sh_acceptGrant_20 ⟨(Nat.le_of_ble_eq_true rfl), (Nat.le_of_ble_eq_true rfl)⟩) hS (fun q _ h => hFc q h) hFc (fun r215 u216 t H1 locs ht hvm hp217 hB hz1 hk1 hS => ?_)
    obtain ⟨hP1, hD1⟩ := hB
    rw [ht] at hP1
    have hD1 := hD1.weaken (fun _ _ _ h => hFc _ h)
    generalize H1 = H at hP1 hS ⊢
    have hP := hP1
    have hD := hD1
    have hP : va_P D xcl (rp ad E RL) H := hP
    have hD : va_D A (rp ad E RL) := hD
    refine lv_istore_n hx hb xd_Sh_acceptGrant_23 rfl hl (Nat.le_of_ble_eq_true rfl) rfl (fun ls hl => ?_)
    have hl : lv_has ls 7 [(3, .int r215), (2, .int r26), (0, .ref (ad 0 5)), (1, .ref (ad 0 1))] := hl
    exact jn29 (r215, r26) _ _ _ (lv_sub hl [0, 1, 3, 2] rfl) hP hD hS trivial
  · refine lv_iconst (v := 0) hx hb xd_Sh_acceptGrant_14 (by decide) ?_
    refine lv_goto (tgt := 23) hx hb xd_Sh_acceptGrant_15 (by decide) ?_
    refine lv_istore_n hx hb xd_Sh_acceptGrant_23 rfl hl (Nat.le_of_ble_eq_true rfl) rfl (fun ls hl => ?_)
    have hl : lv_has ls 7 [(3, .int 0), (2, .int r26), (0, .ref (ad 0 5)), (1, .ref (ad 0 1))] := hl
    exact jn29 (0, r26) _ _ _ (lv_sub hl [0, 1, 3, 2] rfl) hP hD hS trivial
set_option maxHeartbeats 4000000 in
set_option maxRecDepth 100000 in
theorem xc_Sh_acceptRequired (l : Launch) (D : va_G) (kA : Nat → ClassId) (sz : Nat) (ad : Nat → Nat → Nat) (E : Nat → Nat → va_E) (RL : List (Nat × Nat)) (Z : zT) (ml : Nat) (nd : Nat) (len : Nat) (wn : Nat) (cs : Nat) (hCI : CI kA ad E RL ml nd len wn cs) : Met l xy_Sh_acceptRequired (.code xy_Sh_acceptRequired xb_Sh_acceptRequired 7 (some .int) :: wT) { frames := 5, cells := 0, slots := 0, locals := 108 } (va_Pc [.ref (ad 0 5), .ref (ad 0 1)] (xPreZ D kA sz (rp ad E RL) Z)) (va_Qi (fun (r : Int32) (u : (Nat → Nat → Nat) × (Nat → Nat → va_E) × List (Nat × Nat)) => (∃ nd2, CI kA u.1 u.2.1 u.2.2 ml nd2 len wn cs) ∧ u.1 0 0 = ad 0 0) (fun (u : (Nat → Nat → Nat) × (Nat → Nat → va_E) × List (Nat × Nat)) t => va_P D xcl (rp u.1 u.2.1 u.2.2) t.heap ∧ va_D (va_A (rp ad E RL) sz) (rp u.1 u.2.1 u.2.2)) (va_A (rp ad E RL) sz)) 0 0 (va_A (rp ad E RL) sz) := by
  refine Met.ofW (cc := xb_Sh_acceptRequired) (maxL := 7) (ret := (some .int)) (by decide) rfl ?_
  intro p e s m args below meth c s₁ B hml hv
  obtain ⟨rfl, ⟨hsz, hP, hK, hD0⟩, hZ⟩ := hv
  have hx := B.exec
  have hb := B.bytes
  have hr := B.returns
  have hT := x_hT B.pre
  have hown : s.vm.findClass xR_Sh = some m.cls := findClass_of_methodNamed B.named
  have hlocks := B.notSynchronized
  subst hsz
  have hD := hD0.self (sz := s.heap.size)
  generalize hAe : va_A (rp ad E RL) s.heap.size = A at hD hZ ⊢
  have hA : ∀ q : Nat, s.heap.size ≤ q → A q := fun q h => by rw [← hAe]; exact Or.inr h
  have hS : va_S A s.heap s.heap [] := va_S.rf
  have hl := lv_entry ([.ref (ad 0 5), .ref (ad 0 1)]) (n := 7) (Nat.le_of_ble_eq_true rfl)
  rw [lg_entry_eq]
  generalize (lg_sl ([.ref (ad 0 5), .ref (ad 0 1)]) ++ List.replicate (7 - (lg_sl ([.ref (ad 0 5), .ref (ad 0 1)])).length) Slot.unset).toArray = ls at hl ⊢
  have hl : lv_has ls 7 [(0, .ref (ad 0 5)), (1, .ref (ad 0 1))] := hl
  have hP : va_P D xcl (rp ad E RL) s.heap := hP
  obtain ⟨hmB, hDk, hLi, hSh, hCh, hLa, hDIs, hLIs⟩ := id hCI
  obtain ⟨lf_1, q_1⟩ := id (hDk)
  have c_2 : E 0 0 = .inr (0, [.ref (ad 0 1), .ref (ad 0 5), .ref (ad 0 7), .ref (ad 0 9), .int (nI ml), .int lf_1]) := q_1
  have m_3 : (0, 0) ∈ RL := hmB 0 (by omega)
  obtain ⟨tx_4, fb_4, fe_4, hl1_4, hw2_4, q1_4, q2_4, q3_4, q4_4, hws_4⟩ := id (hLi)
  have c_5 : E 0 1 = .inr (1, [.ref (ad 0 2), .ref (ad 0 3), .ref (ad 0 4), .int (nI len), .int (nI wn)]) := q1_4
  have m_6 : (0, 1) ∈ RL := hmB 1 (by omega)
  have c_7 : E 0 2 = .inl (kA 1, 40, .inl tx_4) := q2_4
  have m_8 : (0, 2) ∈ RL := hmB 2 (by omega)
  have c_9 : E 0 3 = .inl (kA 0, 20, .inl fb_4) := q3_4
  have m_10 : (0, 3) ∈ RL := hmB 3 (by omega)
  have c_11 : E 0 4 = .inl (kA 0, 20, .inl fe_4) := q4_4
  have m_12 : (0, 4) ∈ RL := hmB 4 (by omega)
  obtain ⟨fd_13, hnd_13, q5_13, q6_13, hds_13⟩ := id (hSh)
  have c_14 : E 0 5 = .inr (2, [.ref (ad 0 6), .int (nI nd)]) := q5_13
  have m_15 : (0, 5) ∈ RL := hmB 5 (by omega)
  have c_16 : E 0 6 = .inl (kA 4, 12, .inr (.inr (.inr (.inr fd_13)))) := q6_13
  have m_17 : (0, 6) ∈ RL := hmB 6 (by omega)
  obtain ⟨cf_18, pv_18, fc_18, hcs_18, hpv_18, q7_18, q8_18, hfc_18⟩ := id (hCh)
  have c_19 : E 0 7 = .inr (3, [.ref (ad 0 5), .ref (ad 0 8), .int (nI cs), .int cf_18, pv_18]) := q7_18
  have m_20 : (0, 7) ∈ RL := hmB 7 (by omega)
  have c_21 : E 0 8 = .inl (kA 4, 12, .inr (.inr (.inr (.inr fc_18)))) := q8_18
  have m_22 : (0, 8) ∈ RL := hmB 8 (by omega)
  obtain ⟨fl_23, hml_23, q9_23, hla_23⟩ := id (hLa)
  have c_24 : E 0 9 = .inl (kA 5, 5, .inr (.inr (.inr (.inr fl_23)))) := q9_23
  have m_25 : (0, 9) ∈ RL := hmB 9 (by omega)
  refine xjoin (D := D) (cl := xcl) (A := A) (H0 := s.heap) (σ := Int32) (ml := 7) 23 (fun (it9 : Int32) => [(1, .ref (ad 0 1)), (0, .ref (ad 0 5))]) (fun (it9 : Int32) => [.int it9]) (fun (it9 : Int32) => rp ad E RL) (fun (it9 : Int32) => True) ?_ (fun jn26 => ?_)
  · intro a9 ls H locs hl hP hD hS hI
    obtain ⟨it9, rfl⟩ : ∃ z, z = a9 := ⟨_, rfl⟩
    have hl : lv_has ls 7 [(1, .ref (ad 0 1)), (0, .ref (ad 0 5))] := hl
    have hP : va_P D xcl (rp ad E RL) H := hP
    have hD : va_D A (rp ad E RL) := hD
    refine lv_istore_n hx hb xd_Sh_acceptRequired_23 rfl hl (Nat.le_of_ble_eq_true rfl) rfl (fun ls hl => ?_)
    have hl : lv_has ls 7 [(2, .int it9), (1, .ref (ad 0 1)), (0, .ref (ad 0 5))] := hl
    refine xjoin (D := D) (cl := xcl) (A := A) (H0 := s.heap) (σ := Int32) (ml := 7) 52 (fun (io9 : Int32) => [(2, .int it9), (1, .ref (ad 0 1)), (0, .ref (ad 0 5))]) (fun (io9 : Int32) => [.int io9]) (fun (io9 : Int32) => rp ad E RL) (fun (io9 : Int32) => True) ?_ (fun jn27 => ?_)
    · intro a9 ls H locs hl hP hD hS hI
      obtain ⟨io9, rfl⟩ : ∃ z, z = a9 := ⟨_, rfl⟩
      have hl : lv_has ls 7 [(2, .int it9), (1, .ref (ad 0 1)), (0, .ref (ad 0 5))] := hl
      have hP : va_P D xcl (rp ad E RL) H := hP
      have hD : va_D A (rp ad E RL) := hD
      refine lv_istore_n hx hb xd_Sh_acceptRequired_52 rfl hl (Nat.le_of_ble_eq_true rfl) rfl (fun ls hl => ?_)
      have hl : lv_has ls 7 [(3, .int io9), (2, .int it9), (1, .ref (ad 0 1)), (0, .ref (ad 0 5))] := hl
      refine xjoin (D := D) (cl := xcl) (A := A) (H0 := s.heap) (σ := Int32) (ml := 7) 74 (fun (fw9 : Int32) => [(3, .int io9), (2, .int it9), (1, .ref (ad 0 1)), (0, .ref (ad 0 5))]) (fun (fw9 : Int32) => [.int fw9]) (fun (fw9 : Int32) => rp ad E RL) (fun (fw9 : Int32) => True) ?_ (fun jn28 => ?_)
      · intro a9 ls H locs hl hP hD hS hI
        obtain ⟨fw9, rfl⟩ : ∃ z, z = a9 := ⟨_, rfl⟩
        have hl : lv_has ls 7 [(3, .int io9), (2, .int it9), (1, .ref (ad 0 1)), (0, .ref (ad 0 5))] := hl
        have hP : va_P D xcl (rp ad E RL) H := hP
        have hD : va_D A (rp ad E RL) := hD
        refine lv_istore hx hb xd_Sh_acceptRequired_74 hl (Nat.le_of_ble_eq_true rfl) rfl (fun ls hl => ?_)
        have hl : lv_has ls 7 [(4, .int fw9), (3, .int io9), (2, .int it9), (1, .ref (ad 0 1)), (0, .ref (ad 0 5))] := hl
        refine lv_aload_n hx hb xd_Sh_acceptRequired_76 rfl (lv_at hl 3 rfl) ?_
        refine lv_aload_n hx hb xd_Sh_acceptRequired_77 rfl (lv_at hl 3 rfl) ?_
        refine px_get (D := D) (ci := 1) (v := .int (nI wn)) (C := xR_Li) (T := xT_Li) (N := 5) hx hb hT xi_Li hown hK.1 hP m_6 c_5 rfl 4 (by decide) (hT _ yw_22) (fun _ h9 => h9) rfl xd_Sh_acceptRequired_78 ?_
        refine lv_iconst (v := 1) hx hb xd_Sh_acceptRequired_81 (by decide) ?_
        refine lv_isub hx hb xd_Sh_acceptRequired_82 ?_
        have hFc := px_free hD hS hA
        refine va_calli (va_runV (As := [.int ((nI wn) - 1)]) (rest := []) ⟨hx, hb, hml, hown, hT⟩ (xc_Li_nameAt l D kA H.size ad E RL ml nd len wn cs ((nI wn) - 1) (by first | assumption | omega)) (cwV 1 hT (wT_V yw_19 yw_20 yw_21 yw_17 yw_18) rfl rfl rfl (by decide +kernel) ⟨Nat.le_of_ble_eq_true rfl, Nat.le_of_ble_eq_true rfl⟩) (px_preV hK hP hD m_6 c_5 rfl) rfl rfl hl.1 rfl (lv_room (Nat.le_of_ble_eq_true rfl)) xd_Sh_acceptRequired_83 ⟨(Nat.le_of_ble_eq_true rfl), (Nat.le_of_ble_eq_true rfl)⟩) hS (fun q _ h => hFc q h) hFc (fun r29 u30 t H1 locs ht hvm hp31 hB hz1 hk1 hS => ?_)
        obtain ⟨hP1, hD1⟩ := hB
        rw [ht] at hP1
        have hD1 := hD1.weaken (fun _ _ _ h => hFc _ h)
        generalize H1 = H at hP1 hS ⊢
        have hP := hP1
        have hD := hD1
        have hP : va_P D xcl (rp ad E RL) H := hP
        have hD : va_D A (rp ad E RL) := hD
        refine lv_istore hx hb xd_Sh_acceptRequired_86 hl (Nat.le_of_ble_eq_true rfl) rfl (fun ls hl => ?_)
        have hl : lv_has ls 7 [(5, .int r29), (4, .int fw9), (3, .int io9), (2, .int it9), (1, .ref (ad 0 1)), (0, .ref (ad 0 5))] := hl
        refine lv_aload_n hx hb xd_Sh_acceptRequired_88 rfl (lv_at hl 4 rfl) ?_
        refine px_get (D := D) (ci := 1) (v := .int (nI wn)) (C := xR_Li) (T := xT_Li) (N := 5) hx hb hT xi_Li hown hK.1 hP m_6 c_5 rfl 4 (by decide) (hT _ yw_22) (fun _ h9 => h9) rfl xd_Sh_acceptRequired_89 ?_
        refine lv_iload hx hb xd_Sh_acceptRequired_92 (lv_at hl 1 rfl) ?_
        refine lv_icmp_ne (tgt := 102) hx hb xd_Sh_acceptRequired_94 (by decide) (fun hc32 => ?_) (fun hc32 => ?_)
        · refine lv_iconst (v := (-1)) hx hb xd_Sh_acceptRequired_102 (by decide) ?_
          refine W.widen (k := 0) (n := 0) (Nat.le_of_ble_eq_true rfl) (Nat.le_of_ble_eq_true rfl) ?_
          exact W.iret (v := (-1)) hx hb hr (fun t ht hW => ⟨⟨(-1), (ad, E, RL), rfl, ⟨⟨nd, hCI⟩, rfl⟩, by rw [ht]; exact hP, hD⟩, hS.F ht⟩) hS.2.2 xd_Sh_acceptRequired_103
        · refine lv_iload hx hb xd_Sh_acceptRequired_97 (lv_at hl 0 rfl) ?_
          refine lv_if_ne (tgt := 104) hx hb xd_Sh_acceptRequired_99 (by decide) (fun hc33 => ?_) (fun hc33 => ?_)
          · refine lv_aload_n hx hb xd_Sh_acceptRequired_104 rfl (lv_at hl 5 rfl) ?_
            have hFc := px_free hD hS hA
            refine va_callq (va_runV (As := []) (rest := []) ⟨hx, hb, hml, hown, hT⟩ (xc_Sh_latest l D kA H.size ad E RL ml nd len wn cs (by first | assumption | omega)) (cwV 0 hT (wT_V yw_37 yw_38 yw_39 yw_27 yw_36) rfl rfl rfl (by decide +kernel) ⟨Nat.le_of_ble_eq_true rfl, Nat.le_of_ble_eq_true rfl⟩) (px_preV hK hP hD m_15 c_14 rfl) rfl rfl hl.1 rfl (lv_room (Nat.le_of_ble_eq_true rfl)) xd_Sh_acceptRequired_105 ⟨(Nat.le_of_ble_eq_true rfl), (Nat.le_of_ble_eq_true rfl)⟩) hS (fun q _ h => hFc q h) hFc (fun r34 u35 t H1 locs ht hvm hp36 hB hz1 hk1 hS => ?_)
            obtain ⟨hP1, hD1⟩ := hB
            rw [ht] at hP1
            have hD1 := hD1.weaken (fun _ _ _ h => hFc _ h)
            generalize H1 = H at hP1 hS ⊢
            have hP := hP1
            have hD := hD1
            have hP : va_P D xcl (rp ad E RL) H := hP
            have hD : va_D A (rp ad E RL) := hD
            rcases hp36 with rfl | ⟨z37, z38, rfl⟩
            · refine W.eq (g2 := F0 m 108 ls [.null]) rfl ?_
              refine lv_astoreN hx hb xd_Sh_acceptRequired_108 hl (Nat.le_of_ble_eq_true rfl) rfl (fun ls hl => ?_)
              have hl : lv_has ls 7 [(6, .null), (5, .int r29), (4, .int fw9), (3, .int io9), (2, .int it9), (1, .ref (ad 0 1)), (0, .ref (ad 0 5))] := hl
              refine lv_aloadN hx hb xd_Sh_acceptRequired_110 (lv_at hl 0 rfl) ?_
              refine lv_ifnonnullN hx hb xd_Sh_acceptRequired_112 ?_
              refine lv_bipush (v := (-2)) hx hb xd_Sh_acceptRequired_115 (by decide) ?_
              refine W.widen (k := 0) (n := 0) (Nat.le_of_ble_eq_true rfl) (Nat.le_of_ble_eq_true rfl) ?_
              exact W.iret (v := (-2)) hx hb hr (fun t ht hW => ⟨⟨(-2), (ad, E, RL), rfl, ⟨⟨nd, hCI⟩, rfl⟩, by rw [ht]; exact hP, hD⟩, hS.F ht⟩) hS.2.2 xd_Sh_acceptRequired_117
            · refine W.eq (g2 := F0 m 108 ls [.ref (ad (1 + z37) 0)]) rfl ?_
              refine lv_astore hx hb xd_Sh_acceptRequired_108 hl (Nat.le_of_ble_eq_true rfl) rfl (fun ls hl => ?_)
              have hl : lv_has ls 7 [(6, .ref (ad (1 + z37) 0)), (5, .int r29), (4, .int fw9), (3, .int io9), (2, .int it9), (1, .ref (ad 0 1)), (0, .ref (ad 0 5))] := hl
              refine lv_aload hx hb xd_Sh_acceptRequired_110 (lv_at hl 0 rfl) ?_
              refine lv_ifnonnull (tgt := 118) hx hb xd_Sh_acceptRequired_112 (by decide) ?_
              refine lv_aload hx hb xd_Sh_acceptRequired_118 (lv_at hl 0 rfl) ?_
              obtain ⟨hm_39, fd_39, nm_39, sd_39, k0_39, k1_39, k2_39, k3_39, f0_39, f1_39, f2_39, f3_39, fe_39, fo_39, tr_39, op_39, hk0_39, hk1_39, hk2_39, hk3_39, q0_39, q1_39, q2_39, q3_39, q4_39, q5_39, q6_39, q7_39, q8_39, q9_39, q10_39, q11_39, q12_39, hg_39⟩ := id (hDIs z37 (by omega))
              have c_40 : E (1 + z37) 0 = .inr (7, [.int (nI z37), .int fd_39, .int nm_39, .ref (ad (1 + z37) 1), .ref (ad (1 + z37) 9), .ref (ad (1 + z37) 10), .ref (ad (1 + z37) 2), .ref (ad (1 + z37) 11), .ref (ad (1 + z37) 12), .ref (ad (1 + z37) 3), .ref (ad (1 + z37) 4), .int sd_39]) := q0_39
              have m_41 : (1 + z37, 0) ∈ RL := hm_39 0 (by omega)
              have c_42 : E (1 + z37) 1 = .inr (8, [.ref (ad (1 + z37) 5), .int (nI k0_39)]) := q1_39
              have m_43 : (1 + z37, 1) ∈ RL := hm_39 1 (by omega)
              have c_44 : E (1 + z37) 2 = .inr (8, [.ref (ad (1 + z37) 6), .int (nI k1_39)]) := q2_39
              have m_45 : (1 + z37, 2) ∈ RL := hm_39 2 (by omega)
              have c_46 : E (1 + z37) 3 = .inr (8, [.ref (ad (1 + z37) 7), .int (nI k2_39)]) := q3_39
              have m_47 : (1 + z37, 3) ∈ RL := hm_39 3 (by omega)
              have c_48 : E (1 + z37) 4 = .inr (8, [.ref (ad (1 + z37) 8), .int (nI k3_39)]) := q4_39
              have m_49 : (1 + z37, 4) ∈ RL := hm_39 4 (by omega)
              have c_50 : E (1 + z37) 5 = .inl (kA 0, 6, .inl f0_39) := q5_39
              have m_51 : (1 + z37, 5) ∈ RL := hm_39 5 (by omega)
              have c_52 : E (1 + z37) 6 = .inl (kA 0, 5, .inl f1_39) := q6_39
              have m_53 : (1 + z37, 6) ∈ RL := hm_39 6 (by omega)
              have c_54 : E (1 + z37) 7 = .inl (kA 0, 3, .inl f2_39) := q7_39
              have m_55 : (1 + z37, 7) ∈ RL := hm_39 7 (by omega)
              have c_56 : E (1 + z37) 8 = .inl (kA 0, 3, .inl f3_39) := q8_39
              have m_57 : (1 + z37, 8) ∈ RL := hm_39 8 (by omega)
              have c_58 : E (1 + z37) 9 = .inl (kA 8, 6, .inr (.inr (.inr (.inr fe_39)))) := q9_39
              have m_59 : (1 + z37, 9) ∈ RL := hm_39 9 (by omega)
              have c_60 : E (1 + z37) 10 = .inl (kA 8, 6, .inr (.inr (.inr (.inr fo_39)))) := q10_39
              have m_61 : (1 + z37, 10) ∈ RL := hm_39 10 (by omega)
              have c_62 : E (1 + z37) 11 = .inl (kA 2, 5, .inl tr_39) := q11_39
              have m_63 : (1 + z37, 11) ∈ RL := hm_39 11 (by omega)
              have c_64 : E (1 + z37) 12 = .inl (kA 2, 5, .inl op_39) := q12_39
              have m_65 : (1 + z37, 12) ∈ RL := hm_39 12 (by omega)
              have hg_39 : ∀ w9, w9 < k0_39 → fe_39 w9 = some (ad (1 + z37) (20 + 3 * w9)) ∧ fo_39 w9 = some (ad (1 + z37) (38 + 3 * w9)) ∧ GI kA (ad (1 + z37)) (E (1 + z37)) (fun o => (1 + z37, o) ∈ RL) (20 + 3 * w9) (21 + 3 * w9) (22 + 3 * w9) ∧ GI kA (ad (1 + z37)) (E (1 + z37)) (fun o => (1 + z37, o) ∈ RL) (38 + 3 * w9) (39 + 3 * w9) (40 + 3 * w9) := hg_39
              refine px_get (D := D) (ci := 7) (v := .int nm_39) (C := xR_Ds) (T := xT_Ds) (N := 12) hx hb hT xi_Ds hown hK.1 hP m_41 c_40 rfl 2 (by decide) (hT _ yw_72) (fun _ h9 => h9) rfl xd_Sh_acceptRequired_120 ?_
              refine lv_iload hx hb xd_Sh_acceptRequired_123 (lv_at hl 1 rfl) ?_
              refine lv_icmp_eq (tgt := 141) hx hb xd_Sh_acceptRequired_125 (by decide) (fun hc66 => ?_) (fun hc66 => ?_)
              · refine lv_iconst (v := (-1)) hx hb xd_Sh_acceptRequired_141 (by decide) ?_
                refine W.widen (k := 0) (n := 0) (Nat.le_of_ble_eq_true rfl) (Nat.le_of_ble_eq_true rfl) ?_
                exact W.iret (v := (-1)) hx hb hr (fun t ht hW => ⟨⟨(-1), (ad, E, RL), rfl, ⟨⟨nd, hCI⟩, rfl⟩, by rw [ht]; exact hP, hD⟩, hS.F ht⟩) hS.2.2 xd_Sh_acceptRequired_142
              · refine lv_aload hx hb xd_Sh_acceptRequired_128 (lv_at hl 0 rfl) ?_
                refine px_get (D := D) (ci := 7) (v := .ref (ad (1 + z37) 2)) (C := xR_Ds) (T := xT_Ds) (N := 12) hx hb hT xi_Ds hown hK.1 hP m_41 c_40 rfl 6 (by decide) (hT _ yw_73) (fun _ h9 => h9) rfl xd_Sh_acceptRequired_130 ?_
                refine lv_iload hx hb xd_Sh_acceptRequired_133 (lv_at hl 1 rfl) ?_
                have hFc := px_free hD hS hA
                refine va_calli (va_runV (As := [.int r29]) (rest := []) ⟨hx, hb, hml, hown, hT⟩ (xc_Na_holds l D kA H.size ad E RL (1 + z37) 2 6 5 k1_39 f1_39 r29 m_45 c_44 m_53 c_52 (by first | assumption | omega) (by first | assumption | omega)) (cwV 1 hT (wT_V yw_42 yw_43 yw_44 yw_45 yw_41) rfl rfl rfl (by decide +kernel) ⟨Nat.le_of_ble_eq_true rfl, Nat.le_of_ble_eq_true rfl⟩) (px_preV hK hP hD m_45 c_44 rfl) rfl rfl hl.1 rfl (lv_room (Nat.le_of_ble_eq_true rfl)) xd_Sh_acceptRequired_135 ⟨(Nat.le_of_ble_eq_true rfl), (Nat.le_of_ble_eq_true rfl)⟩) hS (fun q _ h => hFc q h) hFc (fun r67 u68 t H1 locs ht hvm hp69 hB hz1 hk1 hS => ?_)
                obtain ⟨hP1, hD1⟩ := hB
                rw [ht] at hP1
                have hD1 := hD1.weaken (fun _ _ _ h => hFc _ h)
                generalize H1 = H at hP1 hS ⊢
                have hP := hP1
                have hD := hD1
                have hP : va_P D xcl (rp ad E RL) H := hP
                have hD : va_D A (rp ad E RL) := hD
                rcases hp69 with ⟨rfl, z70, z71, z72⟩ | ⟨rfl, z73⟩
                · refine W.eq (g2 := F0 m 138 ls [.int 1]) rfl ?_
                  refine lv_if_eq (tgt := 143) hx hb xd_Sh_acceptRequired_138 (by decide) (fun hc74 => absurd hc74 (by decide)) (fun _ => ?_)
                  refine lv_iconst (v := (-1)) hx hb xd_Sh_acceptRequired_141 (by decide) ?_
                  refine W.widen (k := 0) (n := 0) (Nat.le_of_ble_eq_true rfl) (Nat.le_of_ble_eq_true rfl) ?_
                  exact W.iret (v := (-1)) hx hb hr (fun t ht hW => ⟨⟨(-1), (ad, E, RL), rfl, ⟨⟨nd, hCI⟩, rfl⟩, by rw [ht]; exact hP, hD⟩, hS.F ht⟩) hS.2.2 xd_Sh_acceptRequired_142
                · refine W.eq (g2 := F0 m 138 ls [.int 0]) rfl ?_
                  refine lv_if_eq (tgt := 143) hx hb xd_Sh_acceptRequired_138 (by decide) (fun _ => ?_) (fun hc75 => absurd (by decide) hc75)
                  refine lv_aload hx hb xd_Sh_acceptRequired_143 (lv_at hl 0 rfl) ?_
                  refine px_get (D := D) (ci := 7) (v := .int sd_39) (C := xR_Ds) (T := xT_Ds) (N := 12) hx hb hT xi_Ds hown hK.1 hP m_41 c_40 rfl 11 (by decide) (hT _ yw_46) (fun _ h9 => h9) rfl xd_Sh_acceptRequired_145 ?_
                  refine lv_if_ne (tgt := 162) hx hb xd_Sh_acceptRequired_148 (by decide) (fun hc76 => ?_) (fun hc76 => ?_)
                  · refine lv_bipush (v := (-2)) hx hb xd_Sh_acceptRequired_162 (by decide) ?_
                    refine W.widen (k := 0) (n := 0) (Nat.le_of_ble_eq_true rfl) (Nat.le_of_ble_eq_true rfl) ?_
                    exact W.iret (v := (-2)) hx hb hr (fun t ht hW => ⟨⟨(-2), (ad, E, RL), rfl, ⟨⟨nd, hCI⟩, rfl⟩, by rw [ht]; exact hP, hD⟩, hS.F ht⟩) hS.2.2 xd_Sh_acceptRequired_164
                  · refine lv_aload hx hb xd_Sh_acceptRequired_151 (lv_at hl 0 rfl) ?_
                    refine px_get (D := D) (ci := 7) (v := .ref (ad (1 + z37) 2)) (C := xR_Ds) (T := xT_Ds) (N := 12) hx hb hT xi_Ds hown hK.1 hP m_41 c_40 rfl 6 (by decide) (hT _ yw_73) (fun _ h9 => h9) rfl xd_Sh_acceptRequired_153 ?_
                    have hFc := px_free hD hS hA
                    refine va_calli (va_runV (As := []) (rest := []) ⟨hx, hb, hml, hown, hT⟩ (xc_Na_isFull l D kA H.size ad E RL (1 + z37) 2 6 5 k1_39 f1_39 m_45 c_44 m_53 c_52 (by first | assumption | omega) (by first | assumption | omega)) (cwV 0 hT (wT_V yw_48 yw_49 yw_50 yw_45 yw_47) rfl rfl rfl (by decide +kernel) ⟨Nat.le_of_ble_eq_true rfl, Nat.le_of_ble_eq_true rfl⟩) (px_preV hK hP hD m_45 c_44 rfl) rfl rfl hl.1 rfl (lv_room (Nat.le_of_ble_eq_true rfl)) xd_Sh_acceptRequired_156 ⟨(Nat.le_of_ble_eq_true rfl), (Nat.le_of_ble_eq_true rfl)⟩) hS (fun q _ h => hFc q h) hFc (fun r77 u78 t H1 locs ht hvm hp79 hB hz1 hk1 hS => ?_)
                    obtain ⟨hP1, hD1⟩ := hB
                    rw [ht] at hP1
                    have hD1 := hD1.weaken (fun _ _ _ h => hFc _ h)
                    generalize H1 = H at hP1 hS ⊢
                    have hP := hP1
                    have hD := hD1
                    have hP : va_P D xcl (rp ad E RL) H := hP
                    have hD : va_D A (rp ad E RL) := hD
                    rcases hp79 with ⟨rfl, z80⟩ | ⟨rfl, z81⟩
                    · refine W.eq (g2 := F0 m 159 ls [.int 1]) rfl ?_
                      refine lv_if_eq (tgt := 165) hx hb xd_Sh_acceptRequired_159 (by decide) (fun hc82 => absurd hc82 (by decide)) (fun _ => ?_)
                      refine lv_bipush (v := (-2)) hx hb xd_Sh_acceptRequired_162 (by decide) ?_
                      refine W.widen (k := 0) (n := 0) (Nat.le_of_ble_eq_true rfl) (Nat.le_of_ble_eq_true rfl) ?_
                      exact W.iret (v := (-2)) hx hb hr (fun t ht hW => ⟨⟨(-2), (ad, E, RL), rfl, ⟨⟨nd, hCI⟩, rfl⟩, by rw [ht]; exact hP, hD⟩, hS.F ht⟩) hS.2.2 xd_Sh_acceptRequired_164
                    · refine W.eq (g2 := F0 m 159 ls [.int 0]) rfl ?_
                      refine lv_if_eq (tgt := 165) hx hb xd_Sh_acceptRequired_159 (by decide) (fun _ => ?_) (fun hc83 => absurd (by decide) hc83)
                      refine lv_aload hx hb xd_Sh_acceptRequired_165 (lv_at hl 0 rfl) ?_
                      refine lv_iload hx hb xd_Sh_acceptRequired_167 (lv_at hl 1 rfl) ?_
                      refine lv_iload_n hx hb xd_Sh_acceptRequired_169 rfl (lv_at hl 4 rfl) ?_
                      refine lv_iload_n hx hb xd_Sh_acceptRequired_170 rfl (lv_at hl 3 rfl) ?_
                      have hFc := px_free hD hS hA
                      refine va_callv (va_runV (As := [.int r29, .int it9, .int io9]) (rest := []) ⟨hx, hb, hml, hown, hT⟩ (xc_Ds_addRequired l D kA H.size ad E RL z37 r29 it9 io9 (hDIs z37 (by omega))) (cwV 3 hT (wT_V yw_75 yw_76 yw_77 yw_32 yw_74) rfl rfl rfl (by decide +kernel) ⟨Nat.le_of_ble_eq_true rfl, Nat.le_of_ble_eq_true rfl⟩) (px_preV hK hP hD m_41 c_40 rfl) rfl rfl hl.1 rfl (lv_room (Nat.le_of_ble_eq_true rfl)) xd_Sh_acceptRequired_171 ⟨(Nat.le_of_ble_eq_true rfl), (Nat.le_of_ble_eq_true rfl)⟩) hS (fun q _ h => hFc q h) hFc (fun u85 t H1 locs ht hvm hp86 hB hz1 hk1 hS => ?_)
                      obtain ⟨hP1, hD1⟩ := hB
                      rw [ht] at hP1
                      have hD1 := hD1.weaken (fun _ _ _ h => hFc _ h)
                      generalize H1 = H at hP1 hS ⊢
                      have hP := hP1
                      have hD := hD1
                      obtain ⟨E87, rfl⟩ : ∃ z, z = u85 := ⟨_, rfl⟩
                      obtain ⟨hp89, p_88⟩ := hp86
                      have p_88 : (∀ b2 o2, ¬ (b2 = 1 + z37) → E87 b2 o2 = E b2 o2) := p_88
                      have c_90 : E87 0 0 = .inr (0, [.ref (ad 0 1), .ref (ad 0 5), .ref (ad 0 7), .ref (ad 0 9), .int (nI ml), .int lf_1]) := (p_88 0 0 (by omega)).trans c_2
                      have c_91 : E87 0 1 = .inr (1, [.ref (ad 0 2), .ref (ad 0 3), .ref (ad 0 4), .int (nI len), .int (nI wn)]) := (p_88 0 1 (by omega)).trans c_5
                      have c_92 : E87 0 2 = .inl (kA 1, 40, .inl tx_4) := (p_88 0 2 (by omega)).trans c_7
                      have c_93 : E87 0 3 = .inl (kA 0, 20, .inl fb_4) := (p_88 0 3 (by omega)).trans c_9
                      have c_94 : E87 0 4 = .inl (kA 0, 20, .inl fe_4) := (p_88 0 4 (by omega)).trans c_11
                      have c_95 : E87 0 5 = .inr (2, [.ref (ad 0 6), .int (nI nd)]) := (p_88 0 5 (by omega)).trans c_14
                      have c_96 : E87 0 6 = .inl (kA 4, 12, .inr (.inr (.inr (.inr fd_13)))) := (p_88 0 6 (by omega)).trans c_16
                      have c_97 : E87 0 7 = .inr (3, [.ref (ad 0 5), .ref (ad 0 8), .int (nI cs), .int cf_18, pv_18]) := (p_88 0 7 (by omega)).trans c_19
                      have c_98 : E87 0 8 = .inl (kA 4, 12, .inr (.inr (.inr (.inr fc_18)))) := (p_88 0 8 (by omega)).trans c_21
                      have c_99 : E87 0 9 = .inl (kA 5, 5, .inr (.inr (.inr (.inr fl_23)))) := (p_88 0 9 (by omega)).trans c_24
                      have hP : va_P D xcl (rp ad E87 RL) H := hP
                      have hD : va_D A (rp ad E87 RL) := hD
                      have hCI : CI kA ad E87 RL ml nd len wn cs := ⟨hmB, ⟨lf_1, c_90⟩, ⟨tx_4, fb_4, fe_4, (by omega), (by omega), c_91, c_92, c_93, c_94, hws_4⟩, ⟨fd_13, (by omega), c_95, c_96, hds_13⟩, ⟨cf_18, pv_18, fc_18, (by omega), hpv_18, c_97, c_98, hfc_18⟩, ⟨fl_23, (by omega), c_99, hla_23⟩, (DIs_set (x := z37) (fun d9 hd9 hx9 => fun2 fun o9 => by show E87 (1 + d9) o9 = _; rw [p_88 (1 + d9) o9 (by omega)]) (fun _ _ _ => rfl) (fun _ h => h) hp89 hDIs), (LIs_same (Nat.le_refl _) (fun n9 hn9 => fun2 fun o9 => by show E87 (20 + n9) o9 = _; rw [p_88 (20 + n9) o9 (by omega)]) (fun _ _ => rfl) (fun _ _ => rfl) (fun _ h9 => h9) hLIs)⟩
                      obtain ⟨hmB, hDk, hLi, hSh, hCh, hLa, hDIs, hLIs⟩ := id hCI
                      refine lv_iconst (v := 2) hx hb xd_Sh_acceptRequired_174 (by decide) ?_
                      refine W.widen (k := 0) (n := 0) (Nat.le_of_ble_eq_true rfl) (Nat.le_of_ble_eq_true rfl) ?_
                      exact W.iret (v := 2) hx hb hr (fun t ht hW => ⟨⟨2, (ad, E87, RL), rfl, ⟨⟨nd, hCI⟩, rfl⟩, by rw [ht]; exact hP, hD⟩, hS.F ht⟩) hS.2.2 xd_Sh_acceptRequired_175
          · refine lv_iconst (v := (-1)) hx hb xd_Sh_acceptRequired_102 (by decide) ?_
            refine W.widen (k := 0) (n := 0) (Nat.le_of_ble_eq_true rfl) (Nat.le_of_ble_eq_true rfl) ?_
            exact W.iret (v := (-1)) hx hb hr (fun t ht hW => ⟨⟨(-1), (ad, E, RL), rfl, ⟨⟨nd, hCI⟩, rfl⟩, by rw [ht]; exact hP, hD⟩, hS.F ht⟩) hS.2.2 xd_Sh_acceptRequired_103
      refine lv_iconst (v := 2) hx hb xd_Sh_acceptRequired_53 (by decide) ?_
      refine lv_iload_n hx hb xd_Sh_acceptRequired_54 rfl (lv_at hl 1 rfl) ?_
      refine lv_if_eq (tgt := 62) hx hb xd_Sh_acceptRequired_55 (by decide) (fun hc100 => ?_) (fun hc100 => ?_)
      · refine lv_iconst (v := 0) hx hb xd_Sh_acceptRequired_62 (by decide) ?_
        refine lv_iadd hx hb xd_Sh_acceptRequired_63 ?_
        refine xn_top (y := nI (2)) (nI_add 2 0) ?_
        refine lv_iload_n hx hb xd_Sh_acceptRequired_64 rfl (lv_at hl 0 rfl) ?_
        refine lv_if_eq (tgt := 72) hx hb xd_Sh_acceptRequired_65 (by decide) (fun hc101 => ?_) (fun hc101 => ?_)
        · refine lv_iconst (v := 0) hx hb xd_Sh_acceptRequired_72 (by decide) ?_
          refine lv_iadd hx hb xd_Sh_acceptRequired_73 ?_
          refine xn_top (y := nI (2)) (nI_add 2 0) ?_
          exact jn28 (nI 2) _ _ _ (lv_sub hl [0, 1, 2, 3] rfl) hP hD hS trivial
        · refine lv_iconst (v := 1) hx hb xd_Sh_acceptRequired_68 (by decide) ?_
          refine lv_goto (tgt := 73) hx hb xd_Sh_acceptRequired_69 (by decide) ?_
          refine lv_iadd hx hb xd_Sh_acceptRequired_73 ?_
          refine xn_top (y := nI (3)) (nI_add 2 1) ?_
          exact jn28 (nI 3) _ _ _ (lv_sub hl [0, 1, 2, 3] rfl) hP hD hS trivial
      · refine lv_iconst (v := 1) hx hb xd_Sh_acceptRequired_58 (by decide) ?_
        refine lv_goto (tgt := 63) hx hb xd_Sh_acceptRequired_59 (by decide) ?_
        refine lv_iadd hx hb xd_Sh_acceptRequired_63 ?_
        refine xn_top (y := nI (3)) (nI_add 2 1) ?_
        refine lv_iload_n hx hb xd_Sh_acceptRequired_64 rfl (lv_at hl 0 rfl) ?_
        refine lv_if_eq (tgt := 72) hx hb xd_Sh_acceptRequired_65 (by decide) (fun hc102 => ?_) (fun hc102 => ?_)
        · refine lv_iconst (v := 0) hx hb xd_Sh_acceptRequired_72 (by decide) ?_
          refine lv_iadd hx hb xd_Sh_acceptRequired_73 ?_
          refine xn_top (y := nI (3)) (nI_add 3 0) ?_
          exact jn28 (nI 3) _ _ _ (lv_sub hl [0, 1, 2, 3] rfl) hP hD hS trivial
        · refine lv_iconst (v := 1) hx hb xd_Sh_acceptRequired_68 (by decide) ?_
          refine lv_goto (tgt := 73) hx hb xd_Sh_acceptRequired_69 (by decide) ?_
          refine lv_iadd hx hb xd_Sh_acceptRequired_73 ?_
          refine xn_top (y := nI (4)) (nI_add 3 1) ?_
          exact jn28 (nI 4) _ _ _ (lv_sub hl [0, 1, 2, 3] rfl) hP hD hS trivial
    refine lv_aload_n hx hb xd_Sh_acceptRequired_24 rfl (lv_at hl 1 rfl) ?_
    refine px_get (D := D) (ci := 1) (v := .int (nI wn)) (C := xR_Li) (T := xT_Li) (N := 5) hx hb hT xi_Li hown hK.1 hP m_6 c_5 rfl 4 (by decide) (hT _ yw_22) (fun _ h9 => h9) rfl xd_Sh_acceptRequired_25 ?_
    refine lv_iconst (v := 3) hx hb xd_Sh_acceptRequired_28 (by decide) ?_
    refine xn_lt (a := wn) (b := 3) (tgt := 51) hx hb xd_Sh_acceptRequired_29 (by decide) (by omega) (by omega) (fun hc103 => ?_) (fun hc103 => ?_)
    · refine lv_iconst (v := 0) hx hb xd_Sh_acceptRequired_51 (by decide) ?_
      exact jn27 0 _ _ _ (lv_sub hl [0, 1, 2] rfl) hP hD hS trivial
    · refine lv_aload_n hx hb xd_Sh_acceptRequired_32 rfl (lv_at hl 1 rfl) ?_
      refine lv_aload_n hx hb xd_Sh_acceptRequired_33 rfl (lv_at hl 1 rfl) ?_
      refine px_get (D := D) (ci := 1) (v := .int (nI wn)) (C := xR_Li) (T := xT_Li) (N := 5) hx hb hT xi_Li hown hK.1 hP m_6 c_5 rfl 4 (by decide) (hT _ yw_22) (fun _ h9 => h9) rfl xd_Sh_acceptRequired_34 ?_
      refine lv_iconst (v := 2) hx hb xd_Sh_acceptRequired_37 (by decide) ?_
      refine lv_isub hx hb xd_Sh_acceptRequired_38 ?_
      refine xn_top (y := nI (wn - 2)) (pk_sub (a := wn) (b := 2) (by omega)) ?_
      refine va_ldcS (q := Z.1 11) hx hb hown hZ.2.2.2.1.2.2.2.2.2.2.2.2.2.2.2.1 xd_Sh_acceptRequired_39 ?_
      have hFc := px_free hD hS hA
      refine va_calli (va_runV (As := [.int (nI (wn - 2)), .ref (Z.1 11)]) (rest := []) ⟨hx, hb, hml, hown, hT⟩ (xc_Li_wordIs l D kA H.size ad E RL Z ml nd len wn cs (nI (wn - 2)) 11 (by first | assumption | omega) (by first | assumption | omega)) (cwV 2 hT (wT_V yw_14 yw_15 yw_16 yw_17 yw_13) rfl rfl rfl (by decide +kernel) ⟨Nat.le_of_ble_eq_true rfl, Nat.le_of_ble_eq_true rfl⟩) (px_preVZ hK hP hD m_6 c_5 rfl hFc (hZ.kept hS)) rfl rfl hl.1 rfl (lv_room (Nat.le_of_ble_eq_true rfl)) xd_Sh_acceptRequired_41 ⟨(Nat.le_of_ble_eq_true rfl), (Nat.le_of_ble_eq_true rfl)⟩) hS (fun q _ h => hFc q h) hFc (fun r104 u105 t H1 locs ht hvm hp106 hB hz1 hk1 hS => ?_)
      obtain ⟨hP1, hD1⟩ := hB
      rw [ht] at hP1
      have hD1 := hD1.weaken (fun _ _ _ h => hFc _ h)
      generalize H1 = H at hP1 hS ⊢
      have hP := hP1
      have hD := hD1
      have hP : va_P D xcl (rp ad E RL) H := hP
      have hD : va_D A (rp ad E RL) := hD
      rcases hp106 with rfl | rfl
      · refine W.eq (g2 := F0 m 44 ls [.int 0]) rfl ?_
        refine lv_if_eq (tgt := 51) hx hb xd_Sh_acceptRequired_44 (by decide) (fun _ => ?_) (fun hc107 => absurd (by decide) hc107)
        refine lv_iconst (v := 0) hx hb xd_Sh_acceptRequired_51 (by decide) ?_
        exact jn27 0 _ _ _ (lv_sub hl [0, 1, 2] rfl) hP hD hS trivial
      · refine W.eq (g2 := F0 m 44 ls [.int 1]) rfl ?_
        refine lv_if_eq (tgt := 51) hx hb xd_Sh_acceptRequired_44 (by decide) (fun hc108 => absurd hc108 (by decide)) (fun _ => ?_)
        refine lv_iconst (v := 1) hx hb xd_Sh_acceptRequired_47 (by decide) ?_
        refine lv_goto (tgt := 52) hx hb xd_Sh_acceptRequired_48 (by decide) ?_
        exact jn27 1 _ _ _ (lv_sub hl [0, 1, 2] rfl) hP hD hS trivial
  refine lv_aload_n hx hb xd_Sh_acceptRequired_0 rfl (lv_at hl 1 rfl) ?_
  refine px_get (D := D) (ci := 1) (v := .int (nI wn)) (C := xR_Li) (T := xT_Li) (N := 5) hx hb hT xi_Li hown hK.1 hP m_6 c_5 rfl 4 (by decide) (hT _ yw_22) (fun _ h9 => h9) rfl xd_Sh_acceptRequired_1 ?_
  refine lv_iconst (v := 3) hx hb xd_Sh_acceptRequired_4 (by decide) ?_
  refine xn_lt (a := wn) (b := 3) (tgt := 22) hx hb xd_Sh_acceptRequired_5 (by decide) (by omega) (by omega) (fun hc109 => ?_) (fun hc109 => ?_)
  · refine lv_iconst (v := 0) hx hb xd_Sh_acceptRequired_22 (by decide) ?_
    exact jn26 0 _ _ _ (lv_sub hl [1, 0] rfl) hP hD hS trivial
  · refine lv_aload_n hx hb xd_Sh_acceptRequired_8 rfl (lv_at hl 1 rfl) ?_
    refine lv_iconst (v := 1) hx hb xd_Sh_acceptRequired_9 (by decide) ?_
    refine va_ldcS (q := Z.1 10) hx hb hown hZ.2.2.2.1.2.2.2.2.2.2.2.2.2.2.1 xd_Sh_acceptRequired_10 ?_
    have hFc := px_free hD hS hA
    refine va_calli (va_runV (As := [.int 1, .ref (Z.1 10)]) (rest := []) ⟨hx, hb, hml, hown, hT⟩ (xc_Li_wordIs l D kA s.heap.size ad E RL Z ml nd len wn cs 1 10 (by first | assumption | omega) (by first | assumption | omega)) (cwV 2 hT (wT_V yw_14 yw_15 yw_16 yw_17 yw_13) rfl rfl rfl (by decide +kernel) ⟨Nat.le_of_ble_eq_true rfl, Nat.le_of_ble_eq_true rfl⟩) (px_preVZ hK hP hD m_6 c_5 rfl hFc (hZ.kept hS)) rfl rfl hl.1 rfl (lv_room (Nat.le_of_ble_eq_true rfl)) xd_Sh_acceptRequired_12 ⟨(Nat.le_of_ble_eq_true rfl), (Nat.le_of_ble_eq_true rfl)⟩) hS (fun q _ h => hFc q h) hFc (fun r110 u111 t H1 locs ht hvm hp112 hB hz1 hk1 hS => ?_)
    obtain ⟨hP1, hD1⟩ := hB
    rw [ht] at hP1
    have hD1 := hD1.weaken (fun _ _ _ h => hFc _ h)
    generalize H1 = H at hP1 hS ⊢
    have hP := hP1
    have hD := hD1
    have hP : va_P D xcl (rp ad E RL) H := hP
    have hD : va_D A (rp ad E RL) := hD
    rcases hp112 with rfl | rfl
    · refine W.eq (g2 := F0 m 15 ls [.int 0]) rfl ?_
      refine lv_if_eq (tgt := 22) hx hb xd_Sh_acceptRequired_15 (by decide) (fun _ => ?_) (fun hc113 => absurd (by decide) hc113)
      refine lv_iconst (v := 0) hx hb xd_Sh_acceptRequired_22 (by decide) ?_
      exact jn26 0 _ _ _ (lv_sub hl [1, 0] rfl) hP hD hS trivial
    · refine W.eq (g2 := F0 m 15 ls [.int 1]) rfl ?_
      refine lv_if_eq (tgt := 22) hx hb xd_Sh_acceptRequired_15 (by decide) (fun hc114 => absurd hc114 (by decide)) (fun _ => ?_)
      refine lv_iconst (v := 1) hx hb xd_Sh_acceptRequired_18 (by decide) ?_
      refine lv_goto (tgt := 23) hx hb xd_Sh_acceptRequired_19 (by decide) ?_
      exact jn26 1 _ _ _ (lv_sub hl [1, 0] rfl) hP hD hS trivial
set_option maxHeartbeats 4000000 in
set_option maxRecDepth 100000 in
theorem xc_Sh_acceptService (l : Launch) (D : va_G) (kA : Nat → ClassId) (sz : Nat) (ad : Nat → Nat → Nat) (E : Nat → Nat → va_E) (RL : List (Nat × Nat)) (Z : zT) (ml : Nat) (nd : Nat) (len : Nat) (wn : Nat) (cs : Nat) (hCI : CI kA ad E RL ml nd len wn cs) : Met l xy_Sh_acceptService (.code xy_Sh_acceptService xb_Sh_acceptService 5 (some .int) :: wT) { frames := 5, cells := 0, slots := 0, locals := 108 } (va_Pc [.ref (ad 0 5), .ref (ad 0 1)] (xPreZ D kA sz (rp ad E RL) Z)) (va_Qi (fun (r : Int32) (u : (Nat → Nat → Nat) × (Nat → Nat → va_E) × List (Nat × Nat)) => (∃ nd2, CI kA u.1 u.2.1 u.2.2 ml nd2 len wn cs) ∧ u.1 0 0 = ad 0 0) (fun (u : (Nat → Nat → Nat) × (Nat → Nat → va_E) × List (Nat × Nat)) t => va_P D xcl (rp u.1 u.2.1 u.2.2) t.heap ∧ va_D (va_A (rp ad E RL) sz) (rp u.1 u.2.1 u.2.2)) (va_A (rp ad E RL) sz)) 0 0 (va_A (rp ad E RL) sz) := by
  refine Met.ofW (cc := xb_Sh_acceptService) (maxL := 5) (ret := (some .int)) (by decide) rfl ?_
  intro p e s m args below meth c s₁ B hml hv
  obtain ⟨rfl, ⟨hsz, hP, hK, hD0⟩, hZ⟩ := hv
  have hx := B.exec
  have hb := B.bytes
  have hr := B.returns
  have hT := x_hT B.pre
  have hown : s.vm.findClass xR_Sh = some m.cls := findClass_of_methodNamed B.named
  have hlocks := B.notSynchronized
  subst hsz
  have hD := hD0.self (sz := s.heap.size)
  generalize hAe : va_A (rp ad E RL) s.heap.size = A at hD hZ ⊢
  have hA : ∀ q : Nat, s.heap.size ≤ q → A q := fun q h => by rw [← hAe]; exact Or.inr h
  have hS : va_S A s.heap s.heap [] := va_S.rf
  have hl := lv_entry ([.ref (ad 0 5), .ref (ad 0 1)]) (n := 5) (Nat.le_of_ble_eq_true rfl)
  rw [lg_entry_eq]
  generalize (lg_sl ([.ref (ad 0 5), .ref (ad 0 1)]) ++ List.replicate (5 - (lg_sl ([.ref (ad 0 5), .ref (ad 0 1)])).length) Slot.unset).toArray = ls at hl ⊢
  have hl : lv_has ls 5 [(0, .ref (ad 0 5)), (1, .ref (ad 0 1))] := hl
  have hP : va_P D xcl (rp ad E RL) s.heap := hP
  obtain ⟨hmB, hDk, hLi, hSh, hCh, hLa, hDIs, hLIs⟩ := id hCI
  obtain ⟨lf_1, q_1⟩ := id (hDk)
  have c_2 : E 0 0 = .inr (0, [.ref (ad 0 1), .ref (ad 0 5), .ref (ad 0 7), .ref (ad 0 9), .int (nI ml), .int lf_1]) := q_1
  have m_3 : (0, 0) ∈ RL := hmB 0 (by omega)
  obtain ⟨tx_4, fb_4, fe_4, hl1_4, hw2_4, q1_4, q2_4, q3_4, q4_4, hws_4⟩ := id (hLi)
  have c_5 : E 0 1 = .inr (1, [.ref (ad 0 2), .ref (ad 0 3), .ref (ad 0 4), .int (nI len), .int (nI wn)]) := q1_4
  have m_6 : (0, 1) ∈ RL := hmB 1 (by omega)
  have c_7 : E 0 2 = .inl (kA 1, 40, .inl tx_4) := q2_4
  have m_8 : (0, 2) ∈ RL := hmB 2 (by omega)
  have c_9 : E 0 3 = .inl (kA 0, 20, .inl fb_4) := q3_4
  have m_10 : (0, 3) ∈ RL := hmB 3 (by omega)
  have c_11 : E 0 4 = .inl (kA 0, 20, .inl fe_4) := q4_4
  have m_12 : (0, 4) ∈ RL := hmB 4 (by omega)
  obtain ⟨fd_13, hnd_13, q5_13, q6_13, hds_13⟩ := id (hSh)
  have c_14 : E 0 5 = .inr (2, [.ref (ad 0 6), .int (nI nd)]) := q5_13
  have m_15 : (0, 5) ∈ RL := hmB 5 (by omega)
  have c_16 : E 0 6 = .inl (kA 4, 12, .inr (.inr (.inr (.inr fd_13)))) := q6_13
  have m_17 : (0, 6) ∈ RL := hmB 6 (by omega)
  obtain ⟨cf_18, pv_18, fc_18, hcs_18, hpv_18, q7_18, q8_18, hfc_18⟩ := id (hCh)
  have c_19 : E 0 7 = .inr (3, [.ref (ad 0 5), .ref (ad 0 8), .int (nI cs), .int cf_18, pv_18]) := q7_18
  have m_20 : (0, 7) ∈ RL := hmB 7 (by omega)
  have c_21 : E 0 8 = .inl (kA 4, 12, .inr (.inr (.inr (.inr fc_18)))) := q8_18
  have m_22 : (0, 8) ∈ RL := hmB 8 (by omega)
  obtain ⟨fl_23, hml_23, q9_23, hla_23⟩ := id (hLa)
  have c_24 : E 0 9 = .inl (kA 5, 5, .inr (.inr (.inr (.inr fl_23)))) := q9_23
  have m_25 : (0, 9) ∈ RL := hmB 9 (by omega)
  refine lv_aload_n hx hb xd_Sh_acceptService_0 rfl (lv_at hl 1 rfl) ?_
  refine lv_iconst (v := 1) hx hb xd_Sh_acceptService_1 (by decide) ?_
  have hFc := px_free hD hS hA
  refine va_calli (va_runV (As := [.int 1]) (rest := []) ⟨hx, hb, hml, hown, hT⟩ (xc_Li_nameAt l D kA s.heap.size ad E RL ml nd len wn cs 1 (by first | assumption | omega)) (cwV 1 hT (wT_V yw_19 yw_20 yw_21 yw_17 yw_18) rfl rfl rfl (by decide +kernel) ⟨Nat.le_of_ble_eq_true rfl, Nat.le_of_ble_eq_true rfl⟩) (px_preV hK hP hD m_6 c_5 rfl) rfl rfl hl.1 rfl (lv_room (Nat.le_of_ble_eq_true rfl)) xd_Sh_acceptService_2 ⟨(Nat.le_of_ble_eq_true rfl), (Nat.le_of_ble_eq_true rfl)⟩) hS (fun q _ h => hFc q h) hFc (fun r26 u27 t H1 locs ht hvm hp28 hB hz1 hk1 hS => ?_)
  obtain ⟨hP1, hD1⟩ := hB
  rw [ht] at hP1
  have hD1 := hD1.weaken (fun _ _ _ h => hFc _ h)
  generalize H1 = H at hP1 hS ⊢
  have hP := hP1
  have hD := hD1
  have hP : va_P D xcl (rp ad E RL) H := hP
  have hD : va_D A (rp ad E RL) := hD
  refine lv_istore_n hx hb xd_Sh_acceptService_5 rfl hl (Nat.le_of_ble_eq_true rfl) rfl (fun ls hl => ?_)
  have hl : lv_has ls 5 [(2, .int r26), (0, .ref (ad 0 5)), (1, .ref (ad 0 1))] := hl
  refine lv_aload_n hx hb xd_Sh_acceptService_6 rfl (lv_at hl 2 rfl) ?_
  refine px_get (D := D) (ci := 1) (v := .int (nI wn)) (C := xR_Li) (T := xT_Li) (N := 5) hx hb hT xi_Li hown hK.1 hP m_6 c_5 rfl 4 (by decide) (hT _ yw_22) (fun _ h9 => h9) rfl xd_Sh_acceptService_7 ?_
  refine lv_iconst (v := 2) hx hb xd_Sh_acceptService_10 (by decide) ?_
  refine xn_ne (a := wn) (b := 2) (tgt := 18) hx hb xd_Sh_acceptService_11 (by decide) (by omega) (by omega) (fun hc29 => ?_) (fun hc29 => ?_)
  · refine lv_iconst (v := (-1)) hx hb xd_Sh_acceptService_18 (by decide) ?_
    refine W.widen (k := 0) (n := 0) (Nat.le_of_ble_eq_true rfl) (Nat.le_of_ble_eq_true rfl) ?_
    exact W.iret (v := (-1)) hx hb hr (fun t ht hW => ⟨⟨(-1), (ad, E, RL), rfl, ⟨⟨nd, hCI⟩, rfl⟩, by rw [ht]; exact hP, hD⟩, hS.F ht⟩) hS.2.2 xd_Sh_acceptService_19
  · refine lv_iload_n hx hb xd_Sh_acceptService_14 rfl (lv_at hl 0 rfl) ?_
    refine lv_if_ne (tgt := 20) hx hb xd_Sh_acceptService_15 (by decide) (fun hc30 => ?_) (fun hc30 => ?_)
    · refine lv_aload_n hx hb xd_Sh_acceptService_20 rfl (lv_at hl 1 rfl) ?_
      have hFc := px_free hD hS hA
      refine va_callq (va_runV (As := []) (rest := []) ⟨hx, hb, hml, hown, hT⟩ (xc_Sh_latest l D kA H.size ad E RL ml nd len wn cs (by first | assumption | omega)) (cwV 0 hT (wT_V yw_37 yw_38 yw_39 yw_27 yw_36) rfl rfl rfl (by decide +kernel) ⟨Nat.le_of_ble_eq_true rfl, Nat.le_of_ble_eq_true rfl⟩) (px_preV hK hP hD m_15 c_14 rfl) rfl rfl hl.1 rfl (lv_room (Nat.le_of_ble_eq_true rfl)) xd_Sh_acceptService_21 ⟨(Nat.le_of_ble_eq_true rfl), (Nat.le_of_ble_eq_true rfl)⟩) hS (fun q _ h => hFc q h) hFc (fun r31 u32 t H1 locs ht hvm hp33 hB hz1 hk1 hS => ?_)
      obtain ⟨hP1, hD1⟩ := hB
      rw [ht] at hP1
      have hD1 := hD1.weaken (fun _ _ _ h => hFc _ h)
      generalize H1 = H at hP1 hS ⊢
      have hP := hP1
      have hD := hD1
      have hP : va_P D xcl (rp ad E RL) H := hP
      have hD : va_D A (rp ad E RL) := hD
      rcases hp33 with rfl | ⟨z34, z35, rfl⟩
      · refine W.eq (g2 := F0 m 24 ls [.null]) rfl ?_
        refine lv_astore_nN hx hb xd_Sh_acceptService_24 rfl hl (Nat.le_of_ble_eq_true rfl) rfl (fun ls hl => ?_)
        have hl : lv_has ls 5 [(3, .null), (2, .int r26), (0, .ref (ad 0 5)), (1, .ref (ad 0 1))] := hl
        refine lv_aload_nN hx hb xd_Sh_acceptService_25 rfl (lv_at hl 0 rfl) ?_
        refine lv_ifnonnullN hx hb xd_Sh_acceptService_26 ?_
        refine lv_bipush (v := (-2)) hx hb xd_Sh_acceptService_29 (by decide) ?_
        refine W.widen (k := 0) (n := 0) (Nat.le_of_ble_eq_true rfl) (Nat.le_of_ble_eq_true rfl) ?_
        exact W.iret (v := (-2)) hx hb hr (fun t ht hW => ⟨⟨(-2), (ad, E, RL), rfl, ⟨⟨nd, hCI⟩, rfl⟩, by rw [ht]; exact hP, hD⟩, hS.F ht⟩) hS.2.2 xd_Sh_acceptService_31
      · refine W.eq (g2 := F0 m 24 ls [.ref (ad (1 + z34) 0)]) rfl ?_
        refine lv_astore_n hx hb xd_Sh_acceptService_24 rfl hl (Nat.le_of_ble_eq_true rfl) rfl (fun ls hl => ?_)
        have hl : lv_has ls 5 [(3, .ref (ad (1 + z34) 0)), (2, .int r26), (0, .ref (ad 0 5)), (1, .ref (ad 0 1))] := hl
        refine lv_aload_n hx hb xd_Sh_acceptService_25 rfl (lv_at hl 0 rfl) ?_
        refine lv_ifnonnull (tgt := 32) hx hb xd_Sh_acceptService_26 (by decide) ?_
        refine lv_aload_n hx hb xd_Sh_acceptService_32 rfl (lv_at hl 3 rfl) ?_
        refine lv_iconst (v := 0) hx hb xd_Sh_acceptService_33 (by decide) ?_
        refine va_ldcS (q := Z.1 5) hx hb hown hZ.2.2.2.1.2.2.2.2.2.1 xd_Sh_acceptService_34 ?_
        have hFc := px_free hD hS hA
        refine va_calli (va_runV (As := [.int 0, .ref (Z.1 5)]) (rest := []) ⟨hx, hb, hml, hown, hT⟩ (xc_Li_wordIs l D kA H.size ad E RL Z ml nd len wn cs 0 5 (by first | assumption | omega) (by first | assumption | omega)) (cwV 2 hT (wT_V yw_14 yw_15 yw_16 yw_17 yw_13) rfl rfl rfl (by decide +kernel) ⟨Nat.le_of_ble_eq_true rfl, Nat.le_of_ble_eq_true rfl⟩) (px_preVZ hK hP hD m_6 c_5 rfl hFc (hZ.kept hS)) rfl rfl hl.1 rfl (lv_room (Nat.le_of_ble_eq_true rfl)) xd_Sh_acceptService_36 ⟨(Nat.le_of_ble_eq_true rfl), (Nat.le_of_ble_eq_true rfl)⟩) hS (fun q _ h => hFc q h) hFc (fun r36 u37 t H1 locs ht hvm hp38 hB hz1 hk1 hS => ?_)
        obtain ⟨hP1, hD1⟩ := hB
        rw [ht] at hP1
        have hD1 := hD1.weaken (fun _ _ _ h => hFc _ h)
        generalize H1 = H at hP1 hS ⊢
        have hP := hP1
        have hD := hD1
        have hP : va_P D xcl (rp ad E RL) H := hP
        have hD : va_D A (rp ad E RL) := hD
        rcases hp38 with rfl | rfl
        · refine W.eq (g2 := F0 m 39 ls [.int 0]) rfl ?_
          refine lv_if_eq (tgt := 49) hx hb xd_Sh_acceptService_39 (by decide) (fun _ => ?_) (fun hc39 => absurd (by decide) hc39)
          refine lv_aload_n hx hb xd_Sh_acceptService_49 rfl (lv_at hl 0 rfl) ?_
          obtain ⟨hm_40, fd_40, nm_40, sd_40, k0_40, k1_40, k2_40, k3_40, f0_40, f1_40, f2_40, f3_40, fe_40, fo_40, tr_40, op_40, hk0_40, hk1_40, hk2_40, hk3_40, q0_40, q1_40, q2_40, q3_40, q4_40, q5_40, q6_40, q7_40, q8_40, q9_40, q10_40, q11_40, q12_40, hg_40⟩ := id (hDIs z34 (by omega))
          have c_41 : E (1 + z34) 0 = .inr (7, [.int (nI z34), .int fd_40, .int nm_40, .ref (ad (1 + z34) 1), .ref (ad (1 + z34) 9), .ref (ad (1 + z34) 10), .ref (ad (1 + z34) 2), .ref (ad (1 + z34) 11), .ref (ad (1 + z34) 12), .ref (ad (1 + z34) 3), .ref (ad (1 + z34) 4), .int sd_40]) := q0_40
          have m_42 : (1 + z34, 0) ∈ RL := hm_40 0 (by omega)
          have c_43 : E (1 + z34) 1 = .inr (8, [.ref (ad (1 + z34) 5), .int (nI k0_40)]) := q1_40
          have m_44 : (1 + z34, 1) ∈ RL := hm_40 1 (by omega)
          have c_45 : E (1 + z34) 2 = .inr (8, [.ref (ad (1 + z34) 6), .int (nI k1_40)]) := q2_40
          have m_46 : (1 + z34, 2) ∈ RL := hm_40 2 (by omega)
          have c_47 : E (1 + z34) 3 = .inr (8, [.ref (ad (1 + z34) 7), .int (nI k2_40)]) := q3_40
          have m_48 : (1 + z34, 3) ∈ RL := hm_40 3 (by omega)
          have c_49 : E (1 + z34) 4 = .inr (8, [.ref (ad (1 + z34) 8), .int (nI k3_40)]) := q4_40
          have m_50 : (1 + z34, 4) ∈ RL := hm_40 4 (by omega)
          have c_51 : E (1 + z34) 5 = .inl (kA 0, 6, .inl f0_40) := q5_40
          have m_52 : (1 + z34, 5) ∈ RL := hm_40 5 (by omega)
          have c_53 : E (1 + z34) 6 = .inl (kA 0, 5, .inl f1_40) := q6_40
          have m_54 : (1 + z34, 6) ∈ RL := hm_40 6 (by omega)
          have c_55 : E (1 + z34) 7 = .inl (kA 0, 3, .inl f2_40) := q7_40
          have m_56 : (1 + z34, 7) ∈ RL := hm_40 7 (by omega)
          have c_57 : E (1 + z34) 8 = .inl (kA 0, 3, .inl f3_40) := q8_40
          have m_58 : (1 + z34, 8) ∈ RL := hm_40 8 (by omega)
          have c_59 : E (1 + z34) 9 = .inl (kA 8, 6, .inr (.inr (.inr (.inr fe_40)))) := q9_40
          have m_60 : (1 + z34, 9) ∈ RL := hm_40 9 (by omega)
          have c_61 : E (1 + z34) 10 = .inl (kA 8, 6, .inr (.inr (.inr (.inr fo_40)))) := q10_40
          have m_62 : (1 + z34, 10) ∈ RL := hm_40 10 (by omega)
          have c_63 : E (1 + z34) 11 = .inl (kA 2, 5, .inl tr_40) := q11_40
          have m_64 : (1 + z34, 11) ∈ RL := hm_40 11 (by omega)
          have c_65 : E (1 + z34) 12 = .inl (kA 2, 5, .inl op_40) := q12_40
          have m_66 : (1 + z34, 12) ∈ RL := hm_40 12 (by omega)
          have hg_40 : ∀ w9, w9 < k0_40 → fe_40 w9 = some (ad (1 + z34) (20 + 3 * w9)) ∧ fo_40 w9 = some (ad (1 + z34) (38 + 3 * w9)) ∧ GI kA (ad (1 + z34)) (E (1 + z34)) (fun o => (1 + z34, o) ∈ RL) (20 + 3 * w9) (21 + 3 * w9) (22 + 3 * w9) ∧ GI kA (ad (1 + z34)) (E (1 + z34)) (fun o => (1 + z34, o) ∈ RL) (38 + 3 * w9) (39 + 3 * w9) (40 + 3 * w9) := hg_40
          refine px_get (D := D) (ci := 7) (v := .ref (ad (1 + z34) 4)) (C := xR_Ds) (T := xT_Ds) (N := 12) hx hb hT xi_Ds hown hK.1 hP m_42 c_41 rfl 10 (by decide) (hT _ yw_78) (fun _ h9 => h9) rfl xd_Sh_acceptService_50 ?_
          refine lv_astore hx hb xd_Sh_acceptService_53 hl (Nat.le_of_ble_eq_true rfl) rfl (fun ls hl => ?_)
          have hl : lv_has ls 5 [(4, .ref (ad (1 + z34) 4)), (3, .ref (ad (1 + z34) 0)), (2, .int r26), (0, .ref (ad 0 5)), (1, .ref (ad 0 1))] := hl
          refine lv_aload hx hb xd_Sh_acceptService_55 (lv_at hl 0 rfl) ?_
          refine lv_iload_n hx hb xd_Sh_acceptService_57 rfl (lv_at hl 2 rfl) ?_
          have hFc := px_free hD hS hA
          refine va_calli (va_runV (As := [.int r26]) (rest := []) ⟨hx, hb, hml, hown, hT⟩ (xc_Na_holds l D kA H.size ad E RL (1 + z34) 4 8 3 k3_40 f3_40 r26 m_50 c_49 m_58 c_57 (by first | assumption | omega) (by first | assumption | omega)) (cwV 1 hT (wT_V yw_42 yw_43 yw_44 yw_45 yw_41) rfl rfl rfl (by decide +kernel) ⟨Nat.le_of_ble_eq_true rfl, Nat.le_of_ble_eq_true rfl⟩) (px_preV hK hP hD m_50 c_49 rfl) rfl rfl hl.1 rfl (lv_room (Nat.le_of_ble_eq_true rfl)) xd_Sh_acceptService_58 ⟨(Nat.le_of_ble_eq_true rfl), (Nat.le_of_ble_eq_true rfl)⟩) hS (fun q _ h => hFc q h) hFc (fun r67 u68 t H1 locs ht hvm hp69 hB hz1 hk1 hS => ?_)
          obtain ⟨hP1, hD1⟩ := hB
          rw [ht] at hP1
          have hD1 := hD1.weaken (fun _ _ _ h => hFc _ h)
          generalize H1 = H at hP1 hS ⊢
          have hP := hP1
          have hD := hD1
          have hP : va_P D xcl (rp ad E RL) H := hP
          have hD : va_D A (rp ad E RL) := hD
          rcases hp69 with ⟨rfl, z70, z71, z72⟩ | ⟨rfl, z73⟩
          · refine W.eq (g2 := F0 m 61 ls [.int 1]) rfl ?_
            refine lv_if_eq (tgt := 66) hx hb xd_Sh_acceptService_61 (by decide) (fun hc74 => absurd hc74 (by decide)) (fun _ => ?_)
            refine lv_iconst (v := (-1)) hx hb xd_Sh_acceptService_64 (by decide) ?_
            refine W.widen (k := 0) (n := 0) (Nat.le_of_ble_eq_true rfl) (Nat.le_of_ble_eq_true rfl) ?_
            exact W.iret (v := (-1)) hx hb hr (fun t ht hW => ⟨⟨(-1), (ad, E, RL), rfl, ⟨⟨nd, hCI⟩, rfl⟩, by rw [ht]; exact hP, hD⟩, hS.F ht⟩) hS.2.2 xd_Sh_acceptService_65
          · refine W.eq (g2 := F0 m 61 ls [.int 0]) rfl ?_
            refine lv_if_eq (tgt := 66) hx hb xd_Sh_acceptService_61 (by decide) (fun _ => ?_) (fun hc75 => absurd (by decide) hc75)
            refine lv_aload_n hx hb xd_Sh_acceptService_66 rfl (lv_at hl 1 rfl) ?_
            refine px_get (D := D) (ci := 7) (v := .int sd_40) (C := xR_Ds) (T := xT_Ds) (N := 12) hx hb hT xi_Ds hown hK.1 hP m_42 c_41 rfl 11 (by decide) (hT _ yw_46) (fun _ h9 => h9) rfl xd_Sh_acceptService_67 ?_
            refine lv_if_ne (tgt := 81) hx hb xd_Sh_acceptService_70 (by decide) (fun hc76 => ?_) (fun hc76 => ?_)
            · refine lv_bipush (v := (-2)) hx hb xd_Sh_acceptService_81 (by decide) ?_
              refine W.widen (k := 0) (n := 0) (Nat.le_of_ble_eq_true rfl) (Nat.le_of_ble_eq_true rfl) ?_
              exact W.iret (v := (-2)) hx hb hr (fun t ht hW => ⟨⟨(-2), (ad, E, RL), rfl, ⟨⟨nd, hCI⟩, rfl⟩, by rw [ht]; exact hP, hD⟩, hS.F ht⟩) hS.2.2 xd_Sh_acceptService_83
            · refine lv_aload hx hb xd_Sh_acceptService_73 (lv_at hl 0 rfl) ?_
              have hFc := px_free hD hS hA
              refine va_calli (va_runV (As := []) (rest := []) ⟨hx, hb, hml, hown, hT⟩ (xc_Na_isFull l D kA H.size ad E RL (1 + z34) 4 8 3 k3_40 f3_40 m_50 c_49 m_58 c_57 (by first | assumption | omega) (by first | assumption | omega)) (cwV 0 hT (wT_V yw_48 yw_49 yw_50 yw_45 yw_47) rfl rfl rfl (by decide +kernel) ⟨Nat.le_of_ble_eq_true rfl, Nat.le_of_ble_eq_true rfl⟩) (px_preV hK hP hD m_50 c_49 rfl) rfl rfl hl.1 rfl (lv_room (Nat.le_of_ble_eq_true rfl)) xd_Sh_acceptService_75 ⟨(Nat.le_of_ble_eq_true rfl), (Nat.le_of_ble_eq_true rfl)⟩) hS (fun q _ h => hFc q h) hFc (fun r77 u78 t H1 locs ht hvm hp79 hB hz1 hk1 hS => ?_)
              obtain ⟨hP1, hD1⟩ := hB
              rw [ht] at hP1
              have hD1 := hD1.weaken (fun _ _ _ h => hFc _ h)
              generalize H1 = H at hP1 hS ⊢
              have hP := hP1
              have hD := hD1
              have hP : va_P D xcl (rp ad E RL) H := hP
              have hD : va_D A (rp ad E RL) := hD
              rcases hp79 with ⟨rfl, z80⟩ | ⟨rfl, z81⟩
              · refine W.eq (g2 := F0 m 78 ls [.int 1]) rfl ?_
                refine lv_if_eq (tgt := 84) hx hb xd_Sh_acceptService_78 (by decide) (fun hc82 => absurd hc82 (by decide)) (fun _ => ?_)
                refine lv_bipush (v := (-2)) hx hb xd_Sh_acceptService_81 (by decide) ?_
                refine W.widen (k := 0) (n := 0) (Nat.le_of_ble_eq_true rfl) (Nat.le_of_ble_eq_true rfl) ?_
                exact W.iret (v := (-2)) hx hb hr (fun t ht hW => ⟨⟨(-2), (ad, E, RL), rfl, ⟨⟨nd, hCI⟩, rfl⟩, by rw [ht]; exact hP, hD⟩, hS.F ht⟩) hS.2.2 xd_Sh_acceptService_83
              · refine W.eq (g2 := F0 m 78 ls [.int 0]) rfl ?_
                refine lv_if_eq (tgt := 84) hx hb xd_Sh_acceptService_78 (by decide) (fun _ => ?_) (fun hc83 => absurd (by decide) hc83)
                refine lv_aload hx hb xd_Sh_acceptService_84 (lv_at hl 0 rfl) ?_
                refine lv_iload_n hx hb xd_Sh_acceptService_86 rfl (lv_at hl 2 rfl) ?_
                have hFc := px_free hD hS hA
                refine va_callv (va_runV (As := [.int r26]) (rest := []) ⟨hx, hb, hml, hown, hT⟩ (xc_Na_append l D kA H.size ad E RL (1 + z34) 4 8 3 k3_40 f3_40 r26 m_50 c_49 m_58 c_57 (by first | assumption | omega) (by first | assumption | omega) (by first | assumption | omega)) (cwV 1 hT (wT_V yw_80 yw_81 yw_82 yw_45 yw_79) rfl rfl rfl (by decide +kernel) ⟨Nat.le_of_ble_eq_true rfl, Nat.le_of_ble_eq_true rfl⟩) (px_preV hK hP hD m_50 c_49 rfl) rfl rfl hl.1 rfl (lv_room (Nat.le_of_ble_eq_true rfl)) xd_Sh_acceptService_87 ⟨(Nat.le_of_ble_eq_true rfl), (Nat.le_of_ble_eq_true rfl)⟩) hS (fun q _ h => hFc q h) hFc (fun u85 t H1 locs ht hvm hp86 hB hz1 hk1 hS => ?_)
                obtain ⟨hP1, hD1⟩ := hB
                rw [ht] at hP1
                have hD1 := hD1.weaken (fun _ _ _ h => hFc _ h)
                generalize H1 = H at hP1 hS ⊢
                have hP := hP1
                have hD := hD1
                obtain ⟨E87, rfl⟩ : ∃ z, z = u85 := ⟨_, rfl⟩
                obtain ⟨w88, w89, hp93, p_90, p_91, p_92⟩ := hp86
                have p_90 : E87 (1 + z34) 4 = .inr (8, [.ref (ad (1 + z34) 8), .int (nI w88)]) := p_90
                have p_91 : E87 (1 + z34) 8 = .inl (kA 0, 3, .inl w89) := p_91
                have p_92 : (∀ b2 o2, ¬ (b2 = (1 + z34) ∧ o2 = 4) → ¬ (b2 = (1 + z34) ∧ o2 = 8) → E87 b2 o2 = E b2 o2) := p_92
                have c_94 : E87 0 0 = .inr (0, [.ref (ad 0 1), .ref (ad 0 5), .ref (ad 0 7), .ref (ad 0 9), .int (nI ml), .int lf_1]) := (p_92 0 0 (by omega) (by omega)).trans c_2
                have c_95 : E87 0 1 = .inr (1, [.ref (ad 0 2), .ref (ad 0 3), .ref (ad 0 4), .int (nI len), .int (nI wn)]) := (p_92 0 1 (by omega) (by omega)).trans c_5
                have c_96 : E87 0 2 = .inl (kA 1, 40, .inl tx_4) := (p_92 0 2 (by omega) (by omega)).trans c_7
                have c_97 : E87 0 3 = .inl (kA 0, 20, .inl fb_4) := (p_92 0 3 (by omega) (by omega)).trans c_9
                have c_98 : E87 0 4 = .inl (kA 0, 20, .inl fe_4) := (p_92 0 4 (by omega) (by omega)).trans c_11
                have c_99 : E87 0 5 = .inr (2, [.ref (ad 0 6), .int (nI nd)]) := (p_92 0 5 (by omega) (by omega)).trans c_14
                have c_100 : E87 0 6 = .inl (kA 4, 12, .inr (.inr (.inr (.inr fd_13)))) := (p_92 0 6 (by omega) (by omega)).trans c_16
                have c_101 : E87 0 7 = .inr (3, [.ref (ad 0 5), .ref (ad 0 8), .int (nI cs), .int cf_18, pv_18]) := (p_92 0 7 (by omega) (by omega)).trans c_19
                have c_102 : E87 0 8 = .inl (kA 4, 12, .inr (.inr (.inr (.inr fc_18)))) := (p_92 0 8 (by omega) (by omega)).trans c_21
                have c_103 : E87 0 9 = .inl (kA 5, 5, .inr (.inr (.inr (.inr fl_23)))) := (p_92 0 9 (by omega) (by omega)).trans c_24
                have c_104 : E87 (1 + z34) 0 = .inr (7, [.int (nI z34), .int fd_40, .int nm_40, .ref (ad (1 + z34) 1), .ref (ad (1 + z34) 9), .ref (ad (1 + z34) 10), .ref (ad (1 + z34) 2), .ref (ad (1 + z34) 11), .ref (ad (1 + z34) 12), .ref (ad (1 + z34) 3), .ref (ad (1 + z34) 4), .int sd_40]) := (p_92 (1 + z34) 0 (by omega) (by omega)).trans c_41
                have c_105 : E87 (1 + z34) 1 = .inr (8, [.ref (ad (1 + z34) 5), .int (nI k0_40)]) := (p_92 (1 + z34) 1 (by omega) (by omega)).trans c_43
                have c_106 : E87 (1 + z34) 2 = .inr (8, [.ref (ad (1 + z34) 6), .int (nI k1_40)]) := (p_92 (1 + z34) 2 (by omega) (by omega)).trans c_45
                have c_107 : E87 (1 + z34) 3 = .inr (8, [.ref (ad (1 + z34) 7), .int (nI k2_40)]) := (p_92 (1 + z34) 3 (by omega) (by omega)).trans c_47
                have c_108 : E87 (1 + z34) 5 = .inl (kA 0, 6, .inl f0_40) := (p_92 (1 + z34) 5 (by omega) (by omega)).trans c_51
                have c_109 : E87 (1 + z34) 6 = .inl (kA 0, 5, .inl f1_40) := (p_92 (1 + z34) 6 (by omega) (by omega)).trans c_53
                have c_110 : E87 (1 + z34) 7 = .inl (kA 0, 3, .inl f2_40) := (p_92 (1 + z34) 7 (by omega) (by omega)).trans c_55
                have c_111 : E87 (1 + z34) 9 = .inl (kA 8, 6, .inr (.inr (.inr (.inr fe_40)))) := (p_92 (1 + z34) 9 (by omega) (by omega)).trans c_59
                have c_112 : E87 (1 + z34) 10 = .inl (kA 8, 6, .inr (.inr (.inr (.inr fo_40)))) := (p_92 (1 + z34) 10 (by omega) (by omega)).trans c_61
                have c_113 : E87 (1 + z34) 11 = .inl (kA 2, 5, .inl tr_40) := (p_92 (1 + z34) 11 (by omega) (by omega)).trans c_63
                have c_114 : E87 (1 + z34) 12 = .inl (kA 2, 5, .inl op_40) := (p_92 (1 + z34) 12 (by omega) (by omega)).trans c_65
                have hP : va_P D xcl (rp ad E87 RL) H := hP
                have hD : va_D A (rp ad E87 RL) := hD
                have hCI : CI kA ad E87 RL ml nd len wn cs := ⟨hmB, ⟨lf_1, c_94⟩, ⟨tx_4, fb_4, fe_4, (by omega), (by omega), c_95, c_96, c_97, c_98, hws_4⟩, ⟨fd_13, (by omega), c_99, c_100, hds_13⟩, ⟨cf_18, pv_18, fc_18, (by omega), hpv_18, c_101, c_102, hfc_18⟩, ⟨fl_23, (by omega), c_103, hla_23⟩, (DIs_set (x := z34) (fun d9 hd9 hx9 => fun2 fun o9 => by show E87 (1 + d9) o9 = _; rw [p_92 (1 + d9) o9 (by omega) (by omega)]) (fun _ _ _ => rfl) (fun _ h => h) ⟨hm_40, fd_40, nm_40, sd_40, k0_40, k1_40, k2_40, w88, f0_40, f1_40, f2_40, w89, fe_40, fo_40, tr_40, op_40, (by omega), (by omega), (by omega), (by omega), c_104, c_105, c_106, c_107, p_90, c_108, c_109, c_110, p_91, c_111, c_112, c_113, c_114, (fun i9 hi9 => ⟨(hg_40 i9 (by omega)).1, (hg_40 i9 (by omega)).2.1, (GI_at (by show E87 (1 + z34) (20 + 3 * i9) = _; rw [p_92 (1 + z34) (20 + 3 * i9) (by omega) (by omega)]) (by show E87 (1 + z34) (21 + 3 * i9) = _; rw [p_92 (1 + z34) (21 + 3 * i9) (by omega) (by omega)]) (by show E87 (1 + z34) (22 + 3 * i9) = _; rw [p_92 (1 + z34) (22 + 3 * i9) (by omega) (by omega)]) (rfl) (rfl) (fun _ h9 => h9) (hg_40 i9 (by omega)).2.2.1), (GI_at (by show E87 (1 + z34) (38 + 3 * i9) = _; rw [p_92 (1 + z34) (38 + 3 * i9) (by omega) (by omega)]) (by show E87 (1 + z34) (39 + 3 * i9) = _; rw [p_92 (1 + z34) (39 + 3 * i9) (by omega) (by omega)]) (by show E87 (1 + z34) (40 + 3 * i9) = _; rw [p_92 (1 + z34) (40 + 3 * i9) (by omega) (by omega)]) (rfl) (rfl) (fun _ h9 => h9) (hg_40 i9 (by omega)).2.2.2)⟩)⟩ hDIs), (LIs_same (Nat.le_refl _) (fun n9 hn9 => fun2 fun o9 => by show E87 (20 + n9) o9 = _; rw [p_92 (20 + n9) o9 (by omega) (by omega)]) (fun _ _ => rfl) (fun _ _ => rfl) (fun _ h9 => h9) hLIs)⟩
                obtain ⟨hmB, hDk, hLi, hSh, hCh, hLa, hDIs, hLIs⟩ := id hCI
                refine lv_iconst (v := 2) hx hb xd_Sh_acceptService_90 (by decide) ?_
                refine W.widen (k := 0) (n := 0) (Nat.le_of_ble_eq_true rfl) (Nat.le_of_ble_eq_true rfl) ?_
                exact W.iret (v := 2) hx hb hr (fun t ht hW => ⟨⟨2, (ad, E87, RL), rfl, ⟨⟨nd, hCI⟩, rfl⟩, by rw [ht]; exact hP, hD⟩, hS.F ht⟩) hS.2.2 xd_Sh_acceptService_91
        · refine W.eq (g2 := F0 m 39 ls [.int 1]) rfl ?_
          refine lv_if_eq (tgt := 49) hx hb xd_Sh_acceptService_39 (by decide) (fun hc115 => absurd hc115 (by decide)) (fun _ => ?_)
          refine lv_aload_n hx hb xd_Sh_acceptService_42 rfl (lv_at hl 0 rfl) ?_
          obtain ⟨hm_116, fd_116, nm_116, sd_116, k0_116, k1_116, k2_116, k3_116, f0_116, f1_116, f2_116, f3_116, fe_116, fo_116, tr_116, op_116, hk0_116, hk1_116, hk2_116, hk3_116, q0_116, q1_116, q2_116, q3_116, q4_116, q5_116, q6_116, q7_116, q8_116, q9_116, q10_116, q11_116, q12_116, hg_116⟩ := id (hDIs z34 (by omega))
          have c_117 : E (1 + z34) 0 = .inr (7, [.int (nI z34), .int fd_116, .int nm_116, .ref (ad (1 + z34) 1), .ref (ad (1 + z34) 9), .ref (ad (1 + z34) 10), .ref (ad (1 + z34) 2), .ref (ad (1 + z34) 11), .ref (ad (1 + z34) 12), .ref (ad (1 + z34) 3), .ref (ad (1 + z34) 4), .int sd_116]) := q0_116
          have m_118 : (1 + z34, 0) ∈ RL := hm_116 0 (by omega)
          have c_119 : E (1 + z34) 1 = .inr (8, [.ref (ad (1 + z34) 5), .int (nI k0_116)]) := q1_116
          have m_120 : (1 + z34, 1) ∈ RL := hm_116 1 (by omega)
          have c_121 : E (1 + z34) 2 = .inr (8, [.ref (ad (1 + z34) 6), .int (nI k1_116)]) := q2_116
          have m_122 : (1 + z34, 2) ∈ RL := hm_116 2 (by omega)
          have c_123 : E (1 + z34) 3 = .inr (8, [.ref (ad (1 + z34) 7), .int (nI k2_116)]) := q3_116
          have m_124 : (1 + z34, 3) ∈ RL := hm_116 3 (by omega)
          have c_125 : E (1 + z34) 4 = .inr (8, [.ref (ad (1 + z34) 8), .int (nI k3_116)]) := q4_116
          have m_126 : (1 + z34, 4) ∈ RL := hm_116 4 (by omega)
          have c_127 : E (1 + z34) 5 = .inl (kA 0, 6, .inl f0_116) := q5_116
          have m_128 : (1 + z34, 5) ∈ RL := hm_116 5 (by omega)
          have c_129 : E (1 + z34) 6 = .inl (kA 0, 5, .inl f1_116) := q6_116
          have m_130 : (1 + z34, 6) ∈ RL := hm_116 6 (by omega)
          have c_131 : E (1 + z34) 7 = .inl (kA 0, 3, .inl f2_116) := q7_116
          have m_132 : (1 + z34, 7) ∈ RL := hm_116 7 (by omega)
          have c_133 : E (1 + z34) 8 = .inl (kA 0, 3, .inl f3_116) := q8_116
          have m_134 : (1 + z34, 8) ∈ RL := hm_116 8 (by omega)
          have c_135 : E (1 + z34) 9 = .inl (kA 8, 6, .inr (.inr (.inr (.inr fe_116)))) := q9_116
          have m_136 : (1 + z34, 9) ∈ RL := hm_116 9 (by omega)
          have c_137 : E (1 + z34) 10 = .inl (kA 8, 6, .inr (.inr (.inr (.inr fo_116)))) := q10_116
          have m_138 : (1 + z34, 10) ∈ RL := hm_116 10 (by omega)
          have c_139 : E (1 + z34) 11 = .inl (kA 2, 5, .inl tr_116) := q11_116
          have m_140 : (1 + z34, 11) ∈ RL := hm_116 11 (by omega)
          have c_141 : E (1 + z34) 12 = .inl (kA 2, 5, .inl op_116) := q12_116
          have m_142 : (1 + z34, 12) ∈ RL := hm_116 12 (by omega)
          have hg_116 : ∀ w9, w9 < k0_116 → fe_116 w9 = some (ad (1 + z34) (20 + 3 * w9)) ∧ fo_116 w9 = some (ad (1 + z34) (38 + 3 * w9)) ∧ GI kA (ad (1 + z34)) (E (1 + z34)) (fun o => (1 + z34, o) ∈ RL) (20 + 3 * w9) (21 + 3 * w9) (22 + 3 * w9) ∧ GI kA (ad (1 + z34)) (E (1 + z34)) (fun o => (1 + z34, o) ∈ RL) (38 + 3 * w9) (39 + 3 * w9) (40 + 3 * w9) := hg_116
          refine px_get (D := D) (ci := 7) (v := .ref (ad (1 + z34) 3)) (C := xR_Ds) (T := xT_Ds) (N := 12) hx hb hT xi_Ds hown hK.1 hP m_118 c_117 rfl 9 (by decide) (hT _ yw_83) (fun _ h9 => h9) rfl xd_Sh_acceptService_43 ?_
          refine lv_goto (tgt := 53) hx hb xd_Sh_acceptService_46 (by decide) ?_
          refine lv_astore hx hb xd_Sh_acceptService_53 hl (Nat.le_of_ble_eq_true rfl) rfl (fun ls hl => ?_)
          have hl : lv_has ls 5 [(4, .ref (ad (1 + z34) 3)), (3, .ref (ad (1 + z34) 0)), (2, .int r26), (0, .ref (ad 0 5)), (1, .ref (ad 0 1))] := hl
          refine lv_aload hx hb xd_Sh_acceptService_55 (lv_at hl 0 rfl) ?_
          refine lv_iload_n hx hb xd_Sh_acceptService_57 rfl (lv_at hl 2 rfl) ?_
          have hFc := px_free hD hS hA
          refine va_calli (va_runV (As := [.int r26]) (rest := []) ⟨hx, hb, hml, hown, hT⟩ (xc_Na_holds l D kA H.size ad E RL (1 + z34) 3 7 3 k2_116 f2_116 r26 m_124 c_123 m_132 c_131 (by first | assumption | omega) (by first | assumption | omega)) (cwV 1 hT (wT_V yw_42 yw_43 yw_44 yw_45 yw_41) rfl rfl rfl (by decide +kernel) ⟨Nat.le_of_ble_eq_true rfl, Nat.le_of_ble_eq_true rfl⟩) (px_preV hK hP hD m_124 c_123 rfl) rfl rfl hl.1 rfl (lv_room (Nat.le_of_ble_eq_true rfl)) xd_Sh_acceptService_58 ⟨(Nat.le_of_ble_eq_true rfl), (Nat.le_of_ble_eq_true rfl)⟩) hS (fun q _ h => hFc q h) hFc (fun r143 u144 t H1 locs ht hvm hp145 hB hz1 hk1 hS => ?_)
          obtain ⟨hP1, hD1⟩ := hB
          rw [ht] at hP1
          have hD1 := hD1.weaken (fun _ _ _ h => hFc _ h)
          generalize H1 = H at hP1 hS ⊢
          have hP := hP1
          have hD := hD1
          have hP : va_P D xcl (rp ad E RL) H := hP
          have hD : va_D A (rp ad E RL) := hD
          rcases hp145 with ⟨rfl, z146, z147, z148⟩ | ⟨rfl, z149⟩
          · refine W.eq (g2 := F0 m 61 ls [.int 1]) rfl ?_
            refine lv_if_eq (tgt := 66) hx hb xd_Sh_acceptService_61 (by decide) (fun hc150 => absurd hc150 (by decide)) (fun _ => ?_)
            refine lv_iconst (v := (-1)) hx hb xd_Sh_acceptService_64 (by decide) ?_
            refine W.widen (k := 0) (n := 0) (Nat.le_of_ble_eq_true rfl) (Nat.le_of_ble_eq_true rfl) ?_
            exact W.iret (v := (-1)) hx hb hr (fun t ht hW => ⟨⟨(-1), (ad, E, RL), rfl, ⟨⟨nd, hCI⟩, rfl⟩, by rw [ht]; exact hP, hD⟩, hS.F ht⟩) hS.2.2 xd_Sh_acceptService_65
          · refine W.eq (g2 := F0 m 61 ls [.int 0]) rfl ?_
            refine lv_if_eq (tgt := 66) hx hb xd_Sh_acceptService_61 (by decide) (fun _ => ?_) (fun hc151 => absurd (by decide) hc151)
            refine lv_aload_n hx hb xd_Sh_acceptService_66 rfl (lv_at hl 1 rfl) ?_
            refine px_get (D := D) (ci := 7) (v := .int sd_116) (C := xR_Ds) (T := xT_Ds) (N := 12) hx hb hT xi_Ds hown hK.1 hP m_118 c_117 rfl 11 (by decide) (hT _ yw_46) (fun _ h9 => h9) rfl xd_Sh_acceptService_67 ?_
            refine lv_if_ne (tgt := 81) hx hb xd_Sh_acceptService_70 (by decide) (fun hc152 => ?_) (fun hc152 => ?_)
            · refine lv_bipush (v := (-2)) hx hb xd_Sh_acceptService_81 (by decide) ?_
              refine W.widen (k := 0) (n := 0) (Nat.le_of_ble_eq_true rfl) (Nat.le_of_ble_eq_true rfl) ?_
              exact W.iret (v := (-2)) hx hb hr (fun t ht hW => ⟨⟨(-2), (ad, E, RL), rfl, ⟨⟨nd, hCI⟩, rfl⟩, by rw [ht]; exact hP, hD⟩, hS.F ht⟩) hS.2.2 xd_Sh_acceptService_83
            · refine lv_aload hx hb xd_Sh_acceptService_73 (lv_at hl 0 rfl) ?_
              have hFc := px_free hD hS hA
              refine va_calli (va_runV (As := []) (rest := []) ⟨hx, hb, hml, hown, hT⟩ (xc_Na_isFull l D kA H.size ad E RL (1 + z34) 3 7 3 k2_116 f2_116 m_124 c_123 m_132 c_131 (by first | assumption | omega) (by first | assumption | omega)) (cwV 0 hT (wT_V yw_48 yw_49 yw_50 yw_45 yw_47) rfl rfl rfl (by decide +kernel) ⟨Nat.le_of_ble_eq_true rfl, Nat.le_of_ble_eq_true rfl⟩) (px_preV hK hP hD m_124 c_123 rfl) rfl rfl hl.1 rfl (lv_room (Nat.le_of_ble_eq_true rfl)) xd_Sh_acceptService_75 ⟨(Nat.le_of_ble_eq_true rfl), (Nat.le_of_ble_eq_true rfl)⟩) hS (fun q _ h => hFc q h) hFc (fun r153 u154 t H1 locs ht hvm hp155 hB hz1 hk1 hS => ?_)
              obtain ⟨hP1, hD1⟩ := hB
              rw [ht] at hP1
              have hD1 := hD1.weaken (fun _ _ _ h => hFc _ h)
              generalize H1 = H at hP1 hS ⊢
              have hP := hP1
              have hD := hD1
              have hP : va_P D xcl (rp ad E RL) H := hP
              have hD : va_D A (rp ad E RL) := hD
              rcases hp155 with ⟨rfl, z156⟩ | ⟨rfl, z157⟩
              · refine W.eq (g2 := F0 m 78 ls [.int 1]) rfl ?_
                refine lv_if_eq (tgt := 84) hx hb xd_Sh_acceptService_78 (by decide) (fun hc158 => absurd hc158 (by decide)) (fun _ => ?_)
                refine lv_bipush (v := (-2)) hx hb xd_Sh_acceptService_81 (by decide) ?_
                refine W.widen (k := 0) (n := 0) (Nat.le_of_ble_eq_true rfl) (Nat.le_of_ble_eq_true rfl) ?_
                exact W.iret (v := (-2)) hx hb hr (fun t ht hW => ⟨⟨(-2), (ad, E, RL), rfl, ⟨⟨nd, hCI⟩, rfl⟩, by rw [ht]; exact hP, hD⟩, hS.F ht⟩) hS.2.2 xd_Sh_acceptService_83
              · refine W.eq (g2 := F0 m 78 ls [.int 0]) rfl ?_
                refine lv_if_eq (tgt := 84) hx hb xd_Sh_acceptService_78 (by decide) (fun _ => ?_) (fun hc159 => absurd (by decide) hc159)
                refine lv_aload hx hb xd_Sh_acceptService_84 (lv_at hl 0 rfl) ?_
                refine lv_iload_n hx hb xd_Sh_acceptService_86 rfl (lv_at hl 2 rfl) ?_
                have hFc := px_free hD hS hA
                refine va_callv (va_runV (As := [.int r26]) (rest := []) ⟨hx, hb, hml, hown, hT⟩ (xc_Na_append l D kA H.size ad E RL (1 + z34) 3 7 3 k2_116 f2_116 r26 m_124 c_123 m_132 c_131 (by first | assumption | omega) (by first | assumption | omega) (by first | assumption | omega)) (cwV 1 hT (wT_V yw_80 yw_81 yw_82 yw_45 yw_79) rfl rfl rfl (by decide +kernel) ⟨Nat.le_of_ble_eq_true rfl, Nat.le_of_ble_eq_true rfl⟩) (px_preV hK hP hD m_124 c_123 rfl) rfl rfl hl.1 rfl (lv_room (Nat.le_of_ble_eq_true rfl)) xd_Sh_acceptService_87 ⟨(Nat.le_of_ble_eq_true rfl), (Nat.le_of_ble_eq_true rfl)⟩) hS (fun q _ h => hFc q h) hFc (fun u161 t H1 locs ht hvm hp162 hB hz1 hk1 hS => ?_)
                obtain ⟨hP1, hD1⟩ := hB
                rw [ht] at hP1
                have hD1 := hD1.weaken (fun _ _ _ h => hFc _ h)
                generalize H1 = H at hP1 hS ⊢
                have hP := hP1
                have hD := hD1
                obtain ⟨E163, rfl⟩ : ∃ z, z = u161 := ⟨_, rfl⟩
                obtain ⟨w164, w165, hp169, p_166, p_167, p_168⟩ := hp162
                have p_166 : E163 (1 + z34) 3 = .inr (8, [.ref (ad (1 + z34) 7), .int (nI w164)]) := p_166
                have p_167 : E163 (1 + z34) 7 = .inl (kA 0, 3, .inl w165) := p_167
                have p_168 : (∀ b2 o2, ¬ (b2 = (1 + z34) ∧ o2 = 3) → ¬ (b2 = (1 + z34) ∧ o2 = 7) → E163 b2 o2 = E b2 o2) := p_168
                have c_170 : E163 0 0 = .inr (0, [.ref (ad 0 1), .ref (ad 0 5), .ref (ad 0 7), .ref (ad 0 9), .int (nI ml), .int lf_1]) := (p_168 0 0 (by omega) (by omega)).trans c_2
                have c_171 : E163 0 1 = .inr (1, [.ref (ad 0 2), .ref (ad 0 3), .ref (ad 0 4), .int (nI len), .int (nI wn)]) := (p_168 0 1 (by omega) (by omega)).trans c_5
                have c_172 : E163 0 2 = .inl (kA 1, 40, .inl tx_4) := (p_168 0 2 (by omega) (by omega)).trans c_7
                have c_173 : E163 0 3 = .inl (kA 0, 20, .inl fb_4) := (p_168 0 3 (by omega) (by omega)).trans c_9
                have c_174 : E163 0 4 = .inl (kA 0, 20, .inl fe_4) := (p_168 0 4 (by omega) (by omega)).trans c_11
                have c_175 : E163 0 5 = .inr (2, [.ref (ad 0 6), .int (nI nd)]) := (p_168 0 5 (by omega) (by omega)).trans c_14
                have c_176 : E163 0 6 = .inl (kA 4, 12, .inr (.inr (.inr (.inr fd_13)))) := (p_168 0 6 (by omega) (by omega)).trans c_16
                have c_177 : E163 0 7 = .inr (3, [.ref (ad 0 5), .ref (ad 0 8), .int (nI cs), .int cf_18, pv_18]) := (p_168 0 7 (by omega) (by omega)).trans c_19
                have c_178 : E163 0 8 = .inl (kA 4, 12, .inr (.inr (.inr (.inr fc_18)))) := (p_168 0 8 (by omega) (by omega)).trans c_21
                have c_179 : E163 0 9 = .inl (kA 5, 5, .inr (.inr (.inr (.inr fl_23)))) := (p_168 0 9 (by omega) (by omega)).trans c_24
                have c_180 : E163 (1 + z34) 0 = .inr (7, [.int (nI z34), .int fd_116, .int nm_116, .ref (ad (1 + z34) 1), .ref (ad (1 + z34) 9), .ref (ad (1 + z34) 10), .ref (ad (1 + z34) 2), .ref (ad (1 + z34) 11), .ref (ad (1 + z34) 12), .ref (ad (1 + z34) 3), .ref (ad (1 + z34) 4), .int sd_116]) := (p_168 (1 + z34) 0 (by omega) (by omega)).trans c_117
                have c_181 : E163 (1 + z34) 1 = .inr (8, [.ref (ad (1 + z34) 5), .int (nI k0_116)]) := (p_168 (1 + z34) 1 (by omega) (by omega)).trans c_119
                have c_182 : E163 (1 + z34) 2 = .inr (8, [.ref (ad (1 + z34) 6), .int (nI k1_116)]) := (p_168 (1 + z34) 2 (by omega) (by omega)).trans c_121
                have c_183 : E163 (1 + z34) 4 = .inr (8, [.ref (ad (1 + z34) 8), .int (nI k3_116)]) := (p_168 (1 + z34) 4 (by omega) (by omega)).trans c_125
                have c_184 : E163 (1 + z34) 5 = .inl (kA 0, 6, .inl f0_116) := (p_168 (1 + z34) 5 (by omega) (by omega)).trans c_127
                have c_185 : E163 (1 + z34) 6 = .inl (kA 0, 5, .inl f1_116) := (p_168 (1 + z34) 6 (by omega) (by omega)).trans c_129
                have c_186 : E163 (1 + z34) 8 = .inl (kA 0, 3, .inl f3_116) := (p_168 (1 + z34) 8 (by omega) (by omega)).trans c_133
                have c_187 : E163 (1 + z34) 9 = .inl (kA 8, 6, .inr (.inr (.inr (.inr fe_116)))) := (p_168 (1 + z34) 9 (by omega) (by omega)).trans c_135
                have c_188 : E163 (1 + z34) 10 = .inl (kA 8, 6, .inr (.inr (.inr (.inr fo_116)))) := (p_168 (1 + z34) 10 (by omega) (by omega)).trans c_137
                have c_189 : E163 (1 + z34) 11 = .inl (kA 2, 5, .inl tr_116) := (p_168 (1 + z34) 11 (by omega) (by omega)).trans c_139
                have c_190 : E163 (1 + z34) 12 = .inl (kA 2, 5, .inl op_116) := (p_168 (1 + z34) 12 (by omega) (by omega)).trans c_141
                have hP : va_P D xcl (rp ad E163 RL) H := hP
                have hD : va_D A (rp ad E163 RL) := hD
                have hCI : CI kA ad E163 RL ml nd len wn cs := ⟨hmB, ⟨lf_1, c_170⟩, ⟨tx_4, fb_4, fe_4, (by omega), (by omega), c_171, c_172, c_173, c_174, hws_4⟩, ⟨fd_13, (by omega), c_175, c_176, hds_13⟩, ⟨cf_18, pv_18, fc_18, (by omega), hpv_18, c_177, c_178, hfc_18⟩, ⟨fl_23, (by omega), c_179, hla_23⟩, (DIs_set (x := z34) (fun d9 hd9 hx9 => fun2 fun o9 => by show E163 (1 + d9) o9 = _; rw [p_168 (1 + d9) o9 (by omega) (by omega)]) (fun _ _ _ => rfl) (fun _ h => h) ⟨hm_116, fd_116, nm_116, sd_116, k0_116, k1_116, w164, k3_116, f0_116, f1_116, w165, f3_116, fe_116, fo_116, tr_116, op_116, (by omega), (by omega), (by omega), (by omega), c_180, c_181, c_182, p_166, c_183, c_184, c_185, p_167, c_186, c_187, c_188, c_189, c_190, (fun i9 hi9 => ⟨(hg_116 i9 (by omega)).1, (hg_116 i9 (by omega)).2.1, (GI_at (by show E163 (1 + z34) (20 + 3 * i9) = _; rw [p_168 (1 + z34) (20 + 3 * i9) (by omega) (by omega)]) (by show E163 (1 + z34) (21 + 3 * i9) = _; rw [p_168 (1 + z34) (21 + 3 * i9) (by omega) (by omega)]) (by show E163 (1 + z34) (22 + 3 * i9) = _; rw [p_168 (1 + z34) (22 + 3 * i9) (by omega) (by omega)]) (rfl) (rfl) (fun _ h9 => h9) (hg_116 i9 (by omega)).2.2.1), (GI_at (by show E163 (1 + z34) (38 + 3 * i9) = _; rw [p_168 (1 + z34) (38 + 3 * i9) (by omega) (by omega)]) (by show E163 (1 + z34) (39 + 3 * i9) = _; rw [p_168 (1 + z34) (39 + 3 * i9) (by omega) (by omega)]) (by show E163 (1 + z34) (40 + 3 * i9) = _; rw [p_168 (1 + z34) (40 + 3 * i9) (by omega) (by omega)]) (rfl) (rfl) (fun _ h9 => h9) (hg_116 i9 (by omega)).2.2.2)⟩)⟩ hDIs), (LIs_same (Nat.le_refl _) (fun n9 hn9 => fun2 fun o9 => by show E163 (20 + n9) o9 = _; rw [p_168 (20 + n9) o9 (by omega) (by omega)]) (fun _ _ => rfl) (fun _ _ => rfl) (fun _ h9 => h9) hLIs)⟩
                obtain ⟨hmB, hDk, hLi, hSh, hCh, hLa, hDIs, hLIs⟩ := id hCI
                refine lv_iconst (v := 2) hx hb xd_Sh_acceptService_90 (by decide) ?_
                refine W.widen (k := 0) (n := 0) (Nat.le_of_ble_eq_true rfl) (Nat.le_of_ble_eq_true rfl) ?_
                exact W.iret (v := 2) hx hb hr (fun t ht hW => ⟨⟨2, (ad, E163, RL), rfl, ⟨⟨nd, hCI⟩, rfl⟩, by rw [ht]; exact hP, hD⟩, hS.F ht⟩) hS.2.2 xd_Sh_acceptService_91
    · refine lv_iconst (v := (-1)) hx hb xd_Sh_acceptService_18 (by decide) ?_
      refine W.widen (k := 0) (n := 0) (Nat.le_of_ble_eq_true rfl) (Nat.le_of_ble_eq_true rfl) ?_
      exact W.iret (v := (-1)) hx hb hr (fun t ht hW => ⟨⟨(-1), (ad, E, RL), rfl, ⟨⟨nd, hCI⟩, rfl⟩, by rw [ht]; exact hP, hD⟩, hS.F ht⟩) hS.2.2 xd_Sh_acceptService_19
set_option maxHeartbeats 4000000 in
set_option maxRecDepth 100000 in
theorem xc_Sh_accept (l : Launch) (D : va_G) (kA : Nat → ClassId) (sz : Nat) (ad : Nat → Nat → Nat) (E : Nat → Nat → va_E) (RL : List (Nat × Nat)) (Z : zT) (ml : Nat) (nd : Nat) (len : Nat) (wn : Nat) (cs : Nat) (hCI : CI kA ad E RL ml nd len wn cs) : Met l xy_Sh_accept (.code xy_Sh_accept xb_Sh_accept 2 (some .int) :: wT) { frames := 6, cells := 13, slots := 66, locals := 134 } (va_Pc [.ref (ad 0 5), .ref (ad 0 1)] (xPreZ D kA sz (rp ad E RL) Z)) (va_Qi (fun (r : Int32) (u : (Nat → Nat → Nat) × (Nat → Nat → va_E) × List (Nat × Nat)) => (∃ nd2, CI kA u.1 u.2.1 u.2.2 ml nd2 len wn cs) ∧ u.1 0 0 = ad 0 0) (fun (u : (Nat → Nat → Nat) × (Nat → Nat → va_E) × List (Nat × Nat)) t => va_P D xcl (rp u.1 u.2.1 u.2.2) t.heap ∧ va_D (va_A (rp ad E RL) sz) (rp u.1 u.2.1 u.2.2)) (va_A (rp ad E RL) sz)) 13 66 (va_A (rp ad E RL) sz) := by
  refine Met.ofW (cc := xb_Sh_accept) (maxL := 2) (ret := (some .int)) (by decide) rfl ?_
  intro p e s m args below meth c s₁ B hml hv
  obtain ⟨rfl, ⟨hsz, hP, hK, hD0⟩, hZ⟩ := hv
  have hx := B.exec
  have hb := B.bytes
  have hr := B.returns
  have hT := x_hT B.pre
  have hown : s.vm.findClass xR_Sh = some m.cls := findClass_of_methodNamed B.named
  have hlocks := B.notSynchronized
  subst hsz
  have hD := hD0.self (sz := s.heap.size)
  generalize hAe : va_A (rp ad E RL) s.heap.size = A at hD hZ ⊢
  have hA : ∀ q : Nat, s.heap.size ≤ q → A q := fun q h => by rw [← hAe]; exact Or.inr h
  have hS : va_S A s.heap s.heap [] := va_S.rf
  have hl := lv_entry ([.ref (ad 0 5), .ref (ad 0 1)]) (n := 2) (Nat.le_of_ble_eq_true rfl)
  rw [lg_entry_eq]
  generalize (lg_sl ([.ref (ad 0 5), .ref (ad 0 1)]) ++ List.replicate (2 - (lg_sl ([.ref (ad 0 5), .ref (ad 0 1)])).length) Slot.unset).toArray = ls at hl ⊢
  have hl : lv_has ls 2 [(0, .ref (ad 0 5)), (1, .ref (ad 0 1))] := hl
  have hP : va_P D xcl (rp ad E RL) s.heap := hP
  obtain ⟨hmB, hDk, hLi, hSh, hCh, hLa, hDIs, hLIs⟩ := id hCI
  obtain ⟨tx_1, fb_1, fe_1, hl1_1, hw2_1, q1_1, q2_1, q3_1, q4_1, hws_1⟩ := id (hLi)
  have c_2 : E 0 1 = .inr (1, [.ref (ad 0 2), .ref (ad 0 3), .ref (ad 0 4), .int (nI len), .int (nI wn)]) := q1_1
  have m_3 : (0, 1) ∈ RL := hmB 1 (by omega)
  have c_4 : E 0 2 = .inl (kA 1, 40, .inl tx_1) := q2_1
  have m_5 : (0, 2) ∈ RL := hmB 2 (by omega)
  have c_6 : E 0 3 = .inl (kA 0, 20, .inl fb_1) := q3_1
  have m_7 : (0, 3) ∈ RL := hmB 3 (by omega)
  have c_8 : E 0 4 = .inl (kA 0, 20, .inl fe_1) := q4_1
  have m_9 : (0, 4) ∈ RL := hmB 4 (by omega)
  refine lv_aload_n hx hb xd_Sh_accept_0 rfl (lv_at hl 1 rfl) ?_
  refine px_get (D := D) (ci := 1) (v := .int (nI wn)) (C := xR_Li) (T := xT_Li) (N := 5) hx hb hT xi_Li hown hK.1 hP m_3 c_2 rfl 4 (by decide) (hT _ yw_22) (fun _ h9 => h9) rfl xd_Sh_accept_1 ?_
  refine xz_ne (a := wn) (tgt := 9) hx hb xd_Sh_accept_4 (by decide) (by omega) (fun hc10 => ?_) (fun hc10 => ?_)
  · refine lv_aload_n hx hb xd_Sh_accept_9 rfl (lv_at hl 1 rfl) ?_
    refine lv_iconst (v := 0) hx hb xd_Sh_accept_10 (by decide) ?_
    refine va_ldcS (q := Z.1 0) hx hb hown hZ.2.2.2.1.1 xd_Sh_accept_11 ?_
    have hFc := px_free hD hS hA
    refine va_calli (va_runV (As := [.int 0, .ref (Z.1 0)]) (rest := []) ⟨hx, hb, hml, hown, hT⟩ (xc_Li_wordIs l D kA s.heap.size ad E RL Z ml nd len wn cs 0 0 (by first | assumption | omega) (by first | assumption | omega)) (cwV 2 hT (wT_V yw_14 yw_15 yw_16 yw_17 yw_13) rfl rfl rfl (by decide +kernel) ⟨Nat.le_of_ble_eq_true rfl, Nat.le_of_ble_eq_true rfl⟩) (px_preVZ hK hP hD m_3 c_2 rfl hFc (hZ.kept hS)) rfl rfl hl.1 rfl (lv_room (Nat.le_of_ble_eq_true rfl)) xd_Sh_accept_13 ⟨(Nat.le_of_ble_eq_true rfl), (Nat.le_of_ble_eq_true rfl)⟩) hS (fun q _ h => hFc q h) hFc (fun r11 u12 t H1 locs ht hvm hp13 hB hz1 hk1 hS => ?_)
    obtain ⟨hP1, hD1⟩ := hB
    rw [ht] at hP1
    have hD1 := hD1.weaken (fun _ _ _ h => hFc _ h)
    generalize H1 = H at hP1 hS ⊢
    have hP := hP1
    have hD := hD1
    have hP : va_P D xcl (rp ad E RL) H := hP
    have hD : va_D A (rp ad E RL) := hD
    rcases hp13 with rfl | rfl
    · refine W.eq (g2 := F0 m 16 ls [.int 0]) rfl ?_
      refine lv_if_eq (tgt := 25) hx hb xd_Sh_accept_16 (by decide) (fun _ => ?_) (fun hc14 => absurd (by decide) hc14)
      refine lv_aload_n hx hb xd_Sh_accept_25 rfl (lv_at hl 1 rfl) ?_
      refine lv_iconst (v := 0) hx hb xd_Sh_accept_26 (by decide) ?_
      refine va_ldcS (q := Z.1 1) hx hb hown hZ.2.2.2.1.2.1 xd_Sh_accept_27 ?_
      have hFc := px_free hD hS hA
      refine va_calli (va_runV (As := [.int 0, .ref (Z.1 1)]) (rest := []) ⟨hx, hb, hml, hown, hT⟩ (xc_Li_wordIs l D kA H.size ad E RL Z ml nd len wn cs 0 1 (by first | assumption | omega) (by first | assumption | omega)) (cwV 2 hT (wT_V yw_14 yw_15 yw_16 yw_17 yw_13) rfl rfl rfl (by decide +kernel) ⟨Nat.le_of_ble_eq_true rfl, Nat.le_of_ble_eq_true rfl⟩) (px_preVZ hK hP hD m_3 c_2 rfl hFc (hZ.kept hS)) rfl rfl hl.1 rfl (lv_room (Nat.le_of_ble_eq_true rfl)) xd_Sh_accept_29 ⟨(Nat.le_of_ble_eq_true rfl), (Nat.le_of_ble_eq_true rfl)⟩) hS (fun q _ h => hFc q h) hFc (fun r15 u16 t H1 locs ht hvm hp17 hB hz1 hk1 hS => ?_)
      obtain ⟨hP1, hD1⟩ := hB
      rw [ht] at hP1
      have hD1 := hD1.weaken (fun _ _ _ h => hFc _ h)
      generalize H1 = H at hP1 hS ⊢
      have hP := hP1
      have hD := hD1
      have hP : va_P D xcl (rp ad E RL) H := hP
      have hD : va_D A (rp ad E RL) := hD
      rcases hp17 with rfl | rfl
      · refine W.eq (g2 := F0 m 32 ls [.int 0]) rfl ?_
        refine lv_if_eq (tgt := 41) hx hb xd_Sh_accept_32 (by decide) (fun _ => ?_) (fun hc18 => absurd (by decide) hc18)
        refine lv_aload_n hx hb xd_Sh_accept_41 rfl (lv_at hl 1 rfl) ?_
        refine lv_iconst (v := 0) hx hb xd_Sh_accept_42 (by decide) ?_
        refine va_ldcS (q := Z.1 2) hx hb hown hZ.2.2.2.1.2.2.1 xd_Sh_accept_43 ?_
        have hFc := px_free hD hS hA
        refine va_calli (va_runV (As := [.int 0, .ref (Z.1 2)]) (rest := []) ⟨hx, hb, hml, hown, hT⟩ (xc_Li_wordIs l D kA H.size ad E RL Z ml nd len wn cs 0 2 (by first | assumption | omega) (by first | assumption | omega)) (cwV 2 hT (wT_V yw_14 yw_15 yw_16 yw_17 yw_13) rfl rfl rfl (by decide +kernel) ⟨Nat.le_of_ble_eq_true rfl, Nat.le_of_ble_eq_true rfl⟩) (px_preVZ hK hP hD m_3 c_2 rfl hFc (hZ.kept hS)) rfl rfl hl.1 rfl (lv_room (Nat.le_of_ble_eq_true rfl)) xd_Sh_accept_45 ⟨(Nat.le_of_ble_eq_true rfl), (Nat.le_of_ble_eq_true rfl)⟩) hS (fun q _ h => hFc q h) hFc (fun r19 u20 t H1 locs ht hvm hp21 hB hz1 hk1 hS => ?_)
        obtain ⟨hP1, hD1⟩ := hB
        rw [ht] at hP1
        have hD1 := hD1.weaken (fun _ _ _ h => hFc _ h)
        generalize H1 = H at hP1 hS ⊢
        have hP := hP1
        have hD := hD1
        have hP : va_P D xcl (rp ad E RL) H := hP
        have hD : va_D A (rp ad E RL) := hD
        rcases hp21 with rfl | rfl
        · refine W.eq (g2 := F0 m 48 ls [.int 0]) rfl ?_
          refine lv_if_ne (tgt := 61) hx hb xd_Sh_accept_48 (by decide) (fun hc22 => absurd (by decide) hc22) (fun _ => ?_)
          refine lv_aload_n hx hb xd_Sh_accept_51 rfl (lv_at hl 1 rfl) ?_
          refine lv_iconst (v := 0) hx hb xd_Sh_accept_52 (by decide) ?_
          refine va_ldcS (q := Z.1 3) hx hb hown hZ.2.2.2.1.2.2.2.1 xd_Sh_accept_53 ?_
          have hFc := px_free hD hS hA
          refine va_calli (va_runV (As := [.int 0, .ref (Z.1 3)]) (rest := []) ⟨hx, hb, hml, hown, hT⟩ (xc_Li_wordIs l D kA H.size ad E RL Z ml nd len wn cs 0 3 (by first | assumption | omega) (by first | assumption | omega)) (cwV 2 hT (wT_V yw_14 yw_15 yw_16 yw_17 yw_13) rfl rfl rfl (by decide +kernel) ⟨Nat.le_of_ble_eq_true rfl, Nat.le_of_ble_eq_true rfl⟩) (px_preVZ hK hP hD m_3 c_2 rfl hFc (hZ.kept hS)) rfl rfl hl.1 rfl (lv_room (Nat.le_of_ble_eq_true rfl)) xd_Sh_accept_55 ⟨(Nat.le_of_ble_eq_true rfl), (Nat.le_of_ble_eq_true rfl)⟩) hS (fun q _ h => hFc q h) hFc (fun r23 u24 t H1 locs ht hvm hp25 hB hz1 hk1 hS => ?_)
          obtain ⟨hP1, hD1⟩ := hB
          rw [ht] at hP1
          have hD1 := hD1.weaken (fun _ _ _ h => hFc _ h)
          generalize H1 = H at hP1 hS ⊢
          have hP := hP1
          have hD := hD1
          have hP : va_P D xcl (rp ad E RL) H := hP
          have hD : va_D A (rp ad E RL) := hD
          rcases hp25 with rfl | rfl
          · refine W.eq (g2 := F0 m 58 ls [.int 0]) rfl ?_
            refine lv_if_eq (tgt := 67) hx hb xd_Sh_accept_58 (by decide) (fun _ => ?_) (fun hc26 => absurd (by decide) hc26)
            refine lv_aload_n hx hb xd_Sh_accept_67 rfl (lv_at hl 1 rfl) ?_
            refine lv_iconst (v := 0) hx hb xd_Sh_accept_68 (by decide) ?_
            refine va_ldcS (q := Z.1 4) hx hb hown hZ.2.2.2.1.2.2.2.2.1 xd_Sh_accept_69 ?_
            have hFc := px_free hD hS hA
            refine va_calli (va_runV (As := [.int 0, .ref (Z.1 4)]) (rest := []) ⟨hx, hb, hml, hown, hT⟩ (xc_Li_wordIs l D kA H.size ad E RL Z ml nd len wn cs 0 4 (by first | assumption | omega) (by first | assumption | omega)) (cwV 2 hT (wT_V yw_14 yw_15 yw_16 yw_17 yw_13) rfl rfl rfl (by decide +kernel) ⟨Nat.le_of_ble_eq_true rfl, Nat.le_of_ble_eq_true rfl⟩) (px_preVZ hK hP hD m_3 c_2 rfl hFc (hZ.kept hS)) rfl rfl hl.1 rfl (lv_room (Nat.le_of_ble_eq_true rfl)) xd_Sh_accept_71 ⟨(Nat.le_of_ble_eq_true rfl), (Nat.le_of_ble_eq_true rfl)⟩) hS (fun q _ h => hFc q h) hFc (fun r27 u28 t H1 locs ht hvm hp29 hB hz1 hk1 hS => ?_)
            obtain ⟨hP1, hD1⟩ := hB
            rw [ht] at hP1
            have hD1 := hD1.weaken (fun _ _ _ h => hFc _ h)
            generalize H1 = H at hP1 hS ⊢
            have hP := hP1
            have hD := hD1
            have hP : va_P D xcl (rp ad E RL) H := hP
            have hD : va_D A (rp ad E RL) := hD
            rcases hp29 with rfl | rfl
            · refine W.eq (g2 := F0 m 74 ls [.int 0]) rfl ?_
              refine lv_if_eq (tgt := 83) hx hb xd_Sh_accept_74 (by decide) (fun _ => ?_) (fun hc30 => absurd (by decide) hc30)
              refine lv_aload_n hx hb xd_Sh_accept_83 rfl (lv_at hl 1 rfl) ?_
              refine lv_iconst (v := 0) hx hb xd_Sh_accept_84 (by decide) ?_
              refine va_ldcS (q := Z.1 5) hx hb hown hZ.2.2.2.1.2.2.2.2.2.1 xd_Sh_accept_85 ?_
              have hFc := px_free hD hS hA
              refine va_calli (va_runV (As := [.int 0, .ref (Z.1 5)]) (rest := []) ⟨hx, hb, hml, hown, hT⟩ (xc_Li_wordIs l D kA H.size ad E RL Z ml nd len wn cs 0 5 (by first | assumption | omega) (by first | assumption | omega)) (cwV 2 hT (wT_V yw_14 yw_15 yw_16 yw_17 yw_13) rfl rfl rfl (by decide +kernel) ⟨Nat.le_of_ble_eq_true rfl, Nat.le_of_ble_eq_true rfl⟩) (px_preVZ hK hP hD m_3 c_2 rfl hFc (hZ.kept hS)) rfl rfl hl.1 rfl (lv_room (Nat.le_of_ble_eq_true rfl)) xd_Sh_accept_87 ⟨(Nat.le_of_ble_eq_true rfl), (Nat.le_of_ble_eq_true rfl)⟩) hS (fun q _ h => hFc q h) hFc (fun r31 u32 t H1 locs ht hvm hp33 hB hz1 hk1 hS => ?_)
              obtain ⟨hP1, hD1⟩ := hB
              rw [ht] at hP1
              have hD1 := hD1.weaken (fun _ _ _ h => hFc _ h)
              generalize H1 = H at hP1 hS ⊢
              have hP := hP1
              have hD := hD1
              have hP : va_P D xcl (rp ad E RL) H := hP
              have hD : va_D A (rp ad E RL) := hD
              rcases hp33 with rfl | rfl
              · refine W.eq (g2 := F0 m 90 ls [.int 0]) rfl ?_
                refine lv_if_ne (tgt := 103) hx hb xd_Sh_accept_90 (by decide) (fun hc34 => absurd (by decide) hc34) (fun _ => ?_)
                refine lv_aload_n hx hb xd_Sh_accept_93 rfl (lv_at hl 1 rfl) ?_
                refine lv_iconst (v := 0) hx hb xd_Sh_accept_94 (by decide) ?_
                refine va_ldcS (q := Z.1 6) hx hb hown hZ.2.2.2.1.2.2.2.2.2.2.1 xd_Sh_accept_95 ?_
                have hFc := px_free hD hS hA
                refine va_calli (va_runV (As := [.int 0, .ref (Z.1 6)]) (rest := []) ⟨hx, hb, hml, hown, hT⟩ (xc_Li_wordIs l D kA H.size ad E RL Z ml nd len wn cs 0 6 (by first | assumption | omega) (by first | assumption | omega)) (cwV 2 hT (wT_V yw_14 yw_15 yw_16 yw_17 yw_13) rfl rfl rfl (by decide +kernel) ⟨Nat.le_of_ble_eq_true rfl, Nat.le_of_ble_eq_true rfl⟩) (px_preVZ hK hP hD m_3 c_2 rfl hFc (hZ.kept hS)) rfl rfl hl.1 rfl (lv_room (Nat.le_of_ble_eq_true rfl)) xd_Sh_accept_97 ⟨(Nat.le_of_ble_eq_true rfl), (Nat.le_of_ble_eq_true rfl)⟩) hS (fun q _ h => hFc q h) hFc (fun r35 u36 t H1 locs ht hvm hp37 hB hz1 hk1 hS => ?_)
                obtain ⟨hP1, hD1⟩ := hB
                rw [ht] at hP1
                have hD1 := hD1.weaken (fun _ _ _ h => hFc _ h)
                generalize H1 = H at hP1 hS ⊢
                have hP := hP1
                have hD := hD1
                have hP : va_P D xcl (rp ad E RL) H := hP
                have hD : va_D A (rp ad E RL) := hD
                rcases hp37 with rfl | rfl
                · refine W.eq (g2 := F0 m 100 ls [.int 0]) rfl ?_
                  refine lv_if_eq (tgt := 109) hx hb xd_Sh_accept_100 (by decide) (fun _ => ?_) (fun hc38 => absurd (by decide) hc38)
                  refine lv_iconst (v := (-1)) hx hb xd_Sh_accept_109 (by decide) ?_
                  refine W.widen (k := 13) (n := 66) (Nat.le_of_ble_eq_true rfl) (Nat.le_of_ble_eq_true rfl) ?_
                  exact W.iret (v := (-1)) hx hb hr (fun t ht hW => ⟨⟨(-1), (ad, E, RL), rfl, ⟨⟨nd, hCI⟩, rfl⟩, by rw [ht]; exact hP, hD⟩, hS.F ht⟩) hS.2.2 xd_Sh_accept_110
                · refine W.eq (g2 := F0 m 100 ls [.int 1]) rfl ?_
                  refine lv_if_eq (tgt := 109) hx hb xd_Sh_accept_100 (by decide) (fun hc39 => absurd hc39 (by decide)) (fun _ => ?_)
                  refine lv_aload_n hx hb xd_Sh_accept_103 rfl (lv_at hl 0 rfl) ?_
                  refine lv_aload_n hx hb xd_Sh_accept_104 rfl (lv_at hl 1 rfl) ?_
                  have hFc := px_free hD hS hA
                  obtain ⟨fd_40, hnd_40, q5_40, q6_40, hds_40⟩ := id (hSh)
                  have c_41 : E 0 5 = .inr (2, [.ref (ad 0 6), .int (nI nd)]) := q5_40
                  have m_42 : (0, 5) ∈ RL := hmB 5 (by omega)
                  have c_43 : E 0 6 = .inl (kA 4, 12, .inr (.inr (.inr (.inr fd_40)))) := q6_40
                  have m_44 : (0, 6) ∈ RL := hmB 6 (by omega)
                  refine va_calli (va_runV (As := [.ref (ad 0 1)]) (rest := []) ⟨hx, hb, hml, hown, hT⟩ (xc_Sh_acceptService l D kA H.size ad E RL Z ml nd len wn cs (by first | assumption | omega)) (cwV 1 hT (wT_V yw_85 yw_86 yw_87 yw_27 yw_84) rfl rfl rfl (by decide +kernel) ⟨Nat.le_of_ble_eq_true rfl, Nat.le_of_ble_eq_true rfl⟩) (px_preVZ hK hP hD m_42 c_41 rfl hFc (hZ.kept hS)) rfl rfl hl.1 rfl (lv_room (Nat.le_of_ble_eq_true rfl)) xd_Sh_accept_105 ⟨(Nat.le_of_ble_eq_true rfl), (Nat.le_of_ble_eq_true rfl)⟩) hS (fun q _ h => hFc q h) hFc (fun r45 u46 t H1 locs ht hvm hp47 hB hz1 hk1 hS => ?_)
                  obtain ⟨hP1, hD1⟩ := hB
                  rw [ht] at hP1
                  have hD1 := hD1.weaken (fun _ _ _ h => hFc _ h)
                  generalize H1 = H at hP1 hS ⊢
                  have hP := hP1
                  have hD := hD1
                  obtain ⟨ad48, E49, RL50⟩ := u46
                  have hl := lv_sub hl [] rfl
                  have hl : lv_has ls 2 [] := hl
                  have hP : va_P D xcl (rp ad48 E49 RL50) H := hP
                  have hD : va_D A (rp ad48 E49 RL50) := hD
                  have hCIx := hp47
                  refine W.widen (k := 13) (n := 66) (Nat.le_of_ble_eq_true rfl) (Nat.le_of_ble_eq_true rfl) ?_
                  exact W.iret (v := r45) hx hb hr (fun t ht hW => ⟨⟨r45, (ad48, E49, RL50), rfl, hCIx, by rw [ht]; exact hP, hD⟩, hS.F ht⟩) hS.2.2 xd_Sh_accept_108
              · refine W.eq (g2 := F0 m 90 ls [.int 1]) rfl ?_
                refine lv_if_ne (tgt := 103) hx hb xd_Sh_accept_90 (by decide) (fun _ => ?_) (fun hc51 => absurd hc51 (by decide))
                refine lv_aload_n hx hb xd_Sh_accept_103 rfl (lv_at hl 0 rfl) ?_
                refine lv_aload_n hx hb xd_Sh_accept_104 rfl (lv_at hl 1 rfl) ?_
                have hFc := px_free hD hS hA
                obtain ⟨fd_52, hnd_52, q5_52, q6_52, hds_52⟩ := id (hSh)
                have c_53 : E 0 5 = .inr (2, [.ref (ad 0 6), .int (nI nd)]) := q5_52
                have m_54 : (0, 5) ∈ RL := hmB 5 (by omega)
                have c_55 : E 0 6 = .inl (kA 4, 12, .inr (.inr (.inr (.inr fd_52)))) := q6_52
                have m_56 : (0, 6) ∈ RL := hmB 6 (by omega)
                refine va_calli (va_runV (As := [.ref (ad 0 1)]) (rest := []) ⟨hx, hb, hml, hown, hT⟩ (xc_Sh_acceptService l D kA H.size ad E RL Z ml nd len wn cs (by first | assumption | omega)) (cwV 1 hT (wT_V yw_85 yw_86 yw_87 yw_27 yw_84) rfl rfl rfl (by decide +kernel) ⟨Nat.le_of_ble_eq_true rfl, Nat.le_of_ble_eq_true rfl⟩) (px_preVZ hK hP hD m_54 c_53 rfl hFc (hZ.kept hS)) rfl rfl hl.1 rfl (lv_room (Nat.le_of_ble_eq_true rfl)) xd_Sh_accept_105 ⟨(Nat.le_of_ble_eq_true rfl), (Nat.le_of_ble_eq_true rfl)⟩) hS (fun q _ h => hFc q h) hFc (fun r57 u58 t H1 locs ht hvm hp59 hB hz1 hk1 hS => ?_)
                obtain ⟨hP1, hD1⟩ := hB
                rw [ht] at hP1
                have hD1 := hD1.weaken (fun _ _ _ h => hFc _ h)
                generalize H1 = H at hP1 hS ⊢
                have hP := hP1
                have hD := hD1
                obtain ⟨ad60, E61, RL62⟩ := u58
                have hl := lv_sub hl [] rfl
                have hl : lv_has ls 2 [] := hl
                have hP : va_P D xcl (rp ad60 E61 RL62) H := hP
                have hD : va_D A (rp ad60 E61 RL62) := hD
                have hCIx := hp59
                refine W.widen (k := 13) (n := 66) (Nat.le_of_ble_eq_true rfl) (Nat.le_of_ble_eq_true rfl) ?_
                exact W.iret (v := r57) hx hb hr (fun t ht hW => ⟨⟨r57, (ad60, E61, RL62), rfl, hCIx, by rw [ht]; exact hP, hD⟩, hS.F ht⟩) hS.2.2 xd_Sh_accept_108
            · refine W.eq (g2 := F0 m 74 ls [.int 1]) rfl ?_
              refine lv_if_eq (tgt := 83) hx hb xd_Sh_accept_74 (by decide) (fun hc63 => absurd hc63 (by decide)) (fun _ => ?_)
              refine lv_aload_n hx hb xd_Sh_accept_77 rfl (lv_at hl 0 rfl) ?_
              refine lv_aload_n hx hb xd_Sh_accept_78 rfl (lv_at hl 1 rfl) ?_
              have hFc := px_free hD hS hA
              obtain ⟨fd_64, hnd_64, q5_64, q6_64, hds_64⟩ := id (hSh)
              have c_65 : E 0 5 = .inr (2, [.ref (ad 0 6), .int (nI nd)]) := q5_64
              have m_66 : (0, 5) ∈ RL := hmB 5 (by omega)
              have c_67 : E 0 6 = .inl (kA 4, 12, .inr (.inr (.inr (.inr fd_64)))) := q6_64
              have m_68 : (0, 6) ∈ RL := hmB 6 (by omega)
              refine va_calli (va_runV (As := [.ref (ad 0 1)]) (rest := []) ⟨hx, hb, hml, hown, hT⟩ (xc_Sh_acceptRequired l D kA H.size ad E RL Z ml nd len wn cs (by first | assumption | omega)) (cwV 1 hT (wT_V yw_89 yw_90 yw_91 yw_27 yw_88) rfl rfl rfl (by decide +kernel) ⟨Nat.le_of_ble_eq_true rfl, Nat.le_of_ble_eq_true rfl⟩) (px_preVZ hK hP hD m_66 c_65 rfl hFc (hZ.kept hS)) rfl rfl hl.1 rfl (lv_room (Nat.le_of_ble_eq_true rfl)) xd_Sh_accept_79 ⟨(Nat.le_of_ble_eq_true rfl), (Nat.le_of_ble_eq_true rfl)⟩) hS (fun q _ h => hFc q h) hFc (fun r69 u70 t H1 locs ht hvm hp71 hB hz1 hk1 hS => ?_)
              obtain ⟨hP1, hD1⟩ := hB
              rw [ht] at hP1
              have hD1 := hD1.weaken (fun _ _ _ h => hFc _ h)
              generalize H1 = H at hP1 hS ⊢
              have hP := hP1
              have hD := hD1
              obtain ⟨ad72, E73, RL74⟩ := u70
              have hl := lv_sub hl [] rfl
              have hl : lv_has ls 2 [] := hl
              have hP : va_P D xcl (rp ad72 E73 RL74) H := hP
              have hD : va_D A (rp ad72 E73 RL74) := hD
              have hCIx := hp71
              refine W.widen (k := 13) (n := 66) (Nat.le_of_ble_eq_true rfl) (Nat.le_of_ble_eq_true rfl) ?_
              exact W.iret (v := r69) hx hb hr (fun t ht hW => ⟨⟨r69, (ad72, E73, RL74), rfl, hCIx, by rw [ht]; exact hP, hD⟩, hS.F ht⟩) hS.2.2 xd_Sh_accept_82
          · refine W.eq (g2 := F0 m 58 ls [.int 1]) rfl ?_
            refine lv_if_eq (tgt := 67) hx hb xd_Sh_accept_58 (by decide) (fun hc75 => absurd hc75 (by decide)) (fun _ => ?_)
            refine lv_aload_n hx hb xd_Sh_accept_61 rfl (lv_at hl 0 rfl) ?_
            refine lv_aload_n hx hb xd_Sh_accept_62 rfl (lv_at hl 1 rfl) ?_
            have hFc := px_free hD hS hA
            obtain ⟨fd_76, hnd_76, q5_76, q6_76, hds_76⟩ := id (hSh)
            have c_77 : E 0 5 = .inr (2, [.ref (ad 0 6), .int (nI nd)]) := q5_76
            have m_78 : (0, 5) ∈ RL := hmB 5 (by omega)
            have c_79 : E 0 6 = .inl (kA 4, 12, .inr (.inr (.inr (.inr fd_76)))) := q6_76
            have m_80 : (0, 6) ∈ RL := hmB 6 (by omega)
            refine va_calli (va_runV (As := [.ref (ad 0 1)]) (rest := []) ⟨hx, hb, hml, hown, hT⟩ (xc_Sh_acceptGrant l D kA H.size ad E RL Z ml nd len wn cs (by first | assumption | omega)) (cwV 1 hT (wT_V yw_93 yw_94 yw_95 yw_27 yw_92) rfl rfl rfl (by decide +kernel) ⟨Nat.le_of_ble_eq_true rfl, Nat.le_of_ble_eq_true rfl⟩) (px_preVZ hK hP hD m_78 c_77 rfl hFc (hZ.kept hS)) rfl rfl hl.1 rfl (lv_room (Nat.le_of_ble_eq_true rfl)) xd_Sh_accept_63 ⟨(Nat.le_of_ble_eq_true rfl), (Nat.le_of_ble_eq_true rfl)⟩) hS (fun q _ h => hFc q h) hFc (fun r81 u82 t H1 locs ht hvm hp83 hB hz1 hk1 hS => ?_)
            obtain ⟨hP1, hD1⟩ := hB
            rw [ht] at hP1
            have hD1 := hD1.weaken (fun _ _ _ h => hFc _ h)
            generalize H1 = H at hP1 hS ⊢
            have hP := hP1
            have hD := hD1
            obtain ⟨ad84, E85, RL86⟩ := u82
            have hl := lv_sub hl [] rfl
            have hl : lv_has ls 2 [] := hl
            have hP : va_P D xcl (rp ad84 E85 RL86) H := hP
            have hD : va_D A (rp ad84 E85 RL86) := hD
            have hCIx := hp83
            refine W.widen (k := 13) (n := 66) (Nat.le_of_ble_eq_true rfl) (Nat.le_of_ble_eq_true rfl) ?_
            exact W.iret (v := r81) hx hb hr (fun t ht hW => ⟨⟨r81, (ad84, E85, RL86), rfl, hCIx, by rw [ht]; exact hP, hD⟩, hS.F ht⟩) hS.2.2 xd_Sh_accept_66
        · refine W.eq (g2 := F0 m 48 ls [.int 1]) rfl ?_
          refine lv_if_ne (tgt := 61) hx hb xd_Sh_accept_48 (by decide) (fun _ => ?_) (fun hc87 => absurd hc87 (by decide))
          refine lv_aload_n hx hb xd_Sh_accept_61 rfl (lv_at hl 0 rfl) ?_
          refine lv_aload_n hx hb xd_Sh_accept_62 rfl (lv_at hl 1 rfl) ?_
          have hFc := px_free hD hS hA
          obtain ⟨fd_88, hnd_88, q5_88, q6_88, hds_88⟩ := id (hSh)
          have c_89 : E 0 5 = .inr (2, [.ref (ad 0 6), .int (nI nd)]) := q5_88
          have m_90 : (0, 5) ∈ RL := hmB 5 (by omega)
          have c_91 : E 0 6 = .inl (kA 4, 12, .inr (.inr (.inr (.inr fd_88)))) := q6_88
          have m_92 : (0, 6) ∈ RL := hmB 6 (by omega)
          refine va_calli (va_runV (As := [.ref (ad 0 1)]) (rest := []) ⟨hx, hb, hml, hown, hT⟩ (xc_Sh_acceptGrant l D kA H.size ad E RL Z ml nd len wn cs (by first | assumption | omega)) (cwV 1 hT (wT_V yw_93 yw_94 yw_95 yw_27 yw_92) rfl rfl rfl (by decide +kernel) ⟨Nat.le_of_ble_eq_true rfl, Nat.le_of_ble_eq_true rfl⟩) (px_preVZ hK hP hD m_90 c_89 rfl hFc (hZ.kept hS)) rfl rfl hl.1 rfl (lv_room (Nat.le_of_ble_eq_true rfl)) xd_Sh_accept_63 ⟨(Nat.le_of_ble_eq_true rfl), (Nat.le_of_ble_eq_true rfl)⟩) hS (fun q _ h => hFc q h) hFc (fun r93 u94 t H1 locs ht hvm hp95 hB hz1 hk1 hS => ?_)
          obtain ⟨hP1, hD1⟩ := hB
          rw [ht] at hP1
          have hD1 := hD1.weaken (fun _ _ _ h => hFc _ h)
          generalize H1 = H at hP1 hS ⊢
          have hP := hP1
          have hD := hD1
          obtain ⟨ad96, E97, RL98⟩ := u94
          have hl := lv_sub hl [] rfl
          have hl : lv_has ls 2 [] := hl
          have hP : va_P D xcl (rp ad96 E97 RL98) H := hP
          have hD : va_D A (rp ad96 E97 RL98) := hD
          have hCIx := hp95
          refine W.widen (k := 13) (n := 66) (Nat.le_of_ble_eq_true rfl) (Nat.le_of_ble_eq_true rfl) ?_
          exact W.iret (v := r93) hx hb hr (fun t ht hW => ⟨⟨r93, (ad96, E97, RL98), rfl, hCIx, by rw [ht]; exact hP, hD⟩, hS.F ht⟩) hS.2.2 xd_Sh_accept_66
      · refine W.eq (g2 := F0 m 32 ls [.int 1]) rfl ?_
        refine lv_if_eq (tgt := 41) hx hb xd_Sh_accept_32 (by decide) (fun hc99 => absurd hc99 (by decide)) (fun _ => ?_)
        refine lv_aload_n hx hb xd_Sh_accept_35 rfl (lv_at hl 0 rfl) ?_
        refine lv_aload_n hx hb xd_Sh_accept_36 rfl (lv_at hl 1 rfl) ?_
        have hFc := px_free hD hS hA
        obtain ⟨fd_100, hnd_100, q5_100, q6_100, hds_100⟩ := id (hSh)
        have c_101 : E 0 5 = .inr (2, [.ref (ad 0 6), .int (nI nd)]) := q5_100
        have m_102 : (0, 5) ∈ RL := hmB 5 (by omega)
        have c_103 : E 0 6 = .inl (kA 4, 12, .inr (.inr (.inr (.inr fd_100)))) := q6_100
        have m_104 : (0, 6) ∈ RL := hmB 6 (by omega)
        refine va_calli (va_runV (As := [.ref (ad 0 1)]) (rest := []) ⟨hx, hb, hml, hown, hT⟩ (xc_Sh_acceptPackage l D kA H.size ad E RL Z ml nd len wn cs (by first | assumption | omega)) (cwV 1 hT (wT_V yw_97 yw_98 yw_99 yw_27 yw_96) rfl rfl rfl (by decide +kernel) ⟨Nat.le_of_ble_eq_true rfl, Nat.le_of_ble_eq_true rfl⟩) (px_preVZ hK hP hD m_102 c_101 rfl hFc (hZ.kept hS)) rfl rfl hl.1 rfl (lv_room (Nat.le_of_ble_eq_true rfl)) xd_Sh_accept_37 ⟨(Nat.le_of_ble_eq_true rfl), (Nat.le_of_ble_eq_true rfl)⟩) hS (fun q _ h => hFc q h) hFc (fun r105 u106 t H1 locs ht hvm hp107 hB hz1 hk1 hS => ?_)
        obtain ⟨hP1, hD1⟩ := hB
        rw [ht] at hP1
        have hD1 := hD1.weaken (fun _ _ _ h => hFc _ h)
        generalize H1 = H at hP1 hS ⊢
        have hP := hP1
        have hD := hD1
        obtain ⟨ad108, E109, RL110⟩ := u106
        have hl := lv_sub hl [] rfl
        have hl : lv_has ls 2 [] := hl
        have hP : va_P D xcl (rp ad108 E109 RL110) H := hP
        have hD : va_D A (rp ad108 E109 RL110) := hD
        have hCIx := hp107
        refine W.widen (k := 13) (n := 66) (Nat.le_of_ble_eq_true rfl) (Nat.le_of_ble_eq_true rfl) ?_
        exact W.iret (v := r105) hx hb hr (fun t ht hW => ⟨⟨r105, (ad108, E109, RL110), rfl, hCIx, by rw [ht]; exact hP, hD⟩, hS.F ht⟩) hS.2.2 xd_Sh_accept_40
    · refine W.eq (g2 := F0 m 16 ls [.int 1]) rfl ?_
      refine lv_if_eq (tgt := 25) hx hb xd_Sh_accept_16 (by decide) (fun hc111 => absurd hc111 (by decide)) (fun _ => ?_)
      refine lv_aload_n hx hb xd_Sh_accept_19 rfl (lv_at hl 0 rfl) ?_
      refine lv_aload_n hx hb xd_Sh_accept_20 rfl (lv_at hl 1 rfl) ?_
      have hFc := px_free hD hS hA
      obtain ⟨fd_112, hnd_112, q5_112, q6_112, hds_112⟩ := id (hSh)
      have c_113 : E 0 5 = .inr (2, [.ref (ad 0 6), .int (nI nd)]) := q5_112
      have m_114 : (0, 5) ∈ RL := hmB 5 (by omega)
      have c_115 : E 0 6 = .inl (kA 4, 12, .inr (.inr (.inr (.inr fd_112)))) := q6_112
      have m_116 : (0, 6) ∈ RL := hmB 6 (by omega)
      refine va_calli (va_runV (As := [.ref (ad 0 1)]) (rest := []) ⟨hx, hb, hml, hown, hT⟩ (xc_Sh_acceptDescriptor l D kA H.size ad E RL Z ml nd len wn cs (by first | assumption | omega)) (cwV 1 hT (wT_V yw_101 yw_102 yw_103 yw_27 yw_100) rfl rfl rfl (by decide +kernel) ⟨Nat.le_of_ble_eq_true rfl, Nat.le_of_ble_eq_true rfl⟩) (px_preVZ hK hP hD m_114 c_113 rfl hFc (hZ.kept hS)) rfl rfl hl.1 rfl (lv_room (Nat.le_of_ble_eq_true rfl)) xd_Sh_accept_21 ⟨(Nat.le_of_ble_eq_true rfl), (Nat.le_of_ble_eq_true rfl)⟩) hS (fun q _ h => hFc q h) hFc (fun r117 u118 t H1 locs ht hvm hp119 hB hz1 hk1 hS => ?_)
      obtain ⟨hP1, hD1⟩ := hB
      rw [ht] at hP1
      have hD1 := hD1.weaken (fun _ _ _ h => hFc _ h)
      generalize H1 = H at hP1 hS ⊢
      have hP := hP1
      have hD := hD1
      obtain ⟨ad120, E121, RL122⟩ := u118
      have hl := lv_sub hl [] rfl
      have hl : lv_has ls 2 [] := hl
      have hP : va_P D xcl (rp ad120 E121 RL122) H := hP
      have hD : va_D A (rp ad120 E121 RL122) := hD
      have hCIx := hp119
      refine W.widen (k := 13) (n := 66) (Nat.le_of_ble_eq_true rfl) (Nat.le_of_ble_eq_true rfl) ?_
      exact W.iret (v := r117) hx hb hr (fun t ht hW => ⟨⟨r117, (ad120, E121, RL122), rfl, hCIx, by rw [ht]; exact hP, hD⟩, hS.F ht⟩) hS.2.2 xd_Sh_accept_24
  · refine lv_iconst (v := 0) hx hb xd_Sh_accept_7 (by decide) ?_
    refine W.widen (k := 13) (n := 66) (Nat.le_of_ble_eq_true rfl) (Nat.le_of_ble_eq_true rfl) ?_
    exact W.iret (v := 0) hx hb hr (fun t ht hW => ⟨⟨0, (ad, E, RL), rfl, ⟨⟨nd, hCI⟩, rfl⟩, by rw [ht]; exact hP, hD⟩, hS.F ht⟩) hS.2.2 xd_Sh_accept_8
