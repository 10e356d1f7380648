theorem dX7_field_0 : decode cX7_field 0 = .ok (.aload_n 0, 1) := by decide +kernel
theorem dX7_field_1 : decode cX7_field 1 = .ok (.getfield 12, 3) := by decide +kernel
theorem dX7_field_4 : decode cX7_field 4 = .ok (.iload_n 1, 1) := by decide +kernel
theorem dX7_field_5 : decode cX7_field 5 = .ok (.invokevirtual 67, 3) := by decide +kernel
theorem dX7_field_8 : decode cX7_field 8 = .ok (.ifCond .eq 21, 3) := by decide +kernel
theorem dX7_field_29 : decode cX7_field 29 = .ok (.iconst (-1), 1) := by decide +kernel
theorem dX7_field_30 : decode cX7_field 30 = .ok (.ireturn, 1) := by decide +kernel
theorem dX7_field_11 : decode cX7_field 11 = .ok (.iload_n 2, 1) := by decide +kernel
theorem dX7_field_12 : decode cX7_field 12 = .ok (.invokestatic 70, 3) := by decide +kernel
theorem dX7_field_15 : decode cX7_field 15 = .ok (.ifCond .eq 14, 3) := by decide +kernel
theorem dX7_field_18 : decode cX7_field 18 = .ok (.aload_n 0, 1) := by decide +kernel
theorem dX7_field_19 : decode cX7_field 19 = .ok (.getfield 12, 3) := by decide +kernel
theorem dX7_field_22 : decode cX7_field 22 = .ok (.iload_n 3, 1) := by decide +kernel
theorem dX7_field_23 : decode cX7_field 23 = .ok (.invokevirtual 73, 3) := by decide +kernel
theorem dX7_field_26 : decode cX7_field 26 = .ok (.ifCond .ne 5, 3) := by decide +kernel
theorem dX7_field_31 : decode cX7_field 31 = .ok (.aload_n 0, 1) := by decide +kernel
theorem dX7_field_32 : decode cX7_field 32 = .ok (.getfield 12, 3) := by decide +kernel
theorem dX7_field_35 : decode cX7_field 35 = .ok (.iload_n 1, 1) := by decide +kernel
theorem dX7_field_36 : decode cX7_field 36 = .ok (.invokevirtual 76, 3) := by decide +kernel
theorem dX7_field_39 : decode cX7_field 39 = .ok (.iload_n 3, 1) := by decide +kernel
theorem dX7_field_40 : decode cX7_field 40 = .ok (.if_icmp .ne 5, 3) := by decide +kernel
theorem dX7_field_45 : decode cX7_field 45 = .ok (.aload_n 0, 1) := by decide +kernel
theorem dX7_field_46 : decode cX7_field 46 = .ok (.getfield 12, 3) := by decide +kernel
theorem dX7_field_49 : decode cX7_field 49 = .ok (.iload_n 1, 1) := by decide +kernel
theorem dX7_field_50 : decode cX7_field 50 = .ok (.invokevirtual 79, 3) := by decide +kernel
theorem dX7_field_53 : decode cX7_field 53 = .ok (.iconst 5, 1) := by decide +kernel
theorem dX7_field_54 : decode cX7_field 54 = .ok (.if_icmp .ne 15, 3) := by decide +kernel
theorem dX7_field_69 : decode cX7_field 69 = .ok (.bipush (-4), 2) := by decide +kernel
theorem dX7_field_71 : decode cX7_field 71 = .ok (.ireturn, 1) := by decide +kernel
theorem dX7_field_57 : decode cX7_field 57 = .ok (.aload_n 0, 1) := by decide +kernel
theorem dX7_field_58 : decode cX7_field 58 = .ok (.getfield 12, 3) := by decide +kernel
theorem dX7_field_61 : decode cX7_field 61 = .ok (.iload_n 1, 1) := by decide +kernel
theorem dX7_field_62 : decode cX7_field 62 = .ok (.iload_n 2, 1) := by decide +kernel
theorem dX7_field_63 : decode cX7_field 63 = .ok (.invokevirtual 82, 3) := by decide +kernel
theorem dX7_field_66 : decode cX7_field 66 = .ok (.ifCond .eq 6, 3) := by decide +kernel
theorem dX7_field_72 : decode cX7_field 72 = .ok (.aload_n 0, 1) := by decide +kernel
theorem dX7_field_73 : decode cX7_field 73 = .ok (.getfield 12, 3) := by decide +kernel
theorem dX7_field_76 : decode cX7_field 76 = .ok (.iload_n 1, 1) := by decide +kernel
theorem dX7_field_77 : decode cX7_field 77 = .ok (.invokevirtual 85, 3) := by decide +kernel
theorem dX7_field_80 : decode cX7_field 80 = .ok (.bipush 6, 2) := by decide +kernel
theorem dX7_field_82 : decode cX7_field 82 = .ok (.if_icmp .lt 6, 3) := by decide +kernel
theorem dX7_field_88 : decode cX7_field 88 = .ok (.aload_n 0, 1) := by decide +kernel
theorem dX7_field_89 : decode cX7_field 89 = .ok (.getfield 12, 3) := by decide +kernel
theorem dX7_field_92 : decode cX7_field 92 = .ok (.iload_n 1, 1) := by decide +kernel
theorem dX7_field_93 : decode cX7_field 93 = .ok (.iload_n 2, 1) := by decide +kernel
theorem dX7_field_94 : decode cX7_field 94 = .ok (.iload_n 3, 1) := by decide +kernel
theorem dX7_field_95 : decode cX7_field 95 = .ok (.invokevirtual 88, 3) := by decide +kernel
theorem dX7_field_98 : decode cX7_field 98 = .ok (.aload_n 0, 1) := by decide +kernel
theorem dX7_field_99 : decode cX7_field 99 = .ok (.getfield 21, 3) := by decide +kernel
theorem dX7_field_102 : decode cX7_field 102 = .ok (.invokevirtual 92, 3) := by decide +kernel
theorem dX7_field_105 : decode cX7_field 105 = .ok (.aload_n 0, 1) := by decide +kernel
theorem dX7_field_106 : decode cX7_field 106 = .ok (.getfield 12, 3) := by decide +kernel
theorem dX7_field_109 : decode cX7_field 109 = .ok (.iload_n 1, 1) := by decide +kernel
theorem dX7_field_110 : decode cX7_field 110 = .ok (.invokevirtual 85, 3) := by decide +kernel
theorem dX7_field_113 : decode cX7_field 113 = .ok (.ireturn, 1) := by decide +kernel
theorem dX7_field_85 : decode cX7_field 85 = .ok (.bipush (-2), 2) := by decide +kernel
theorem dX7_field_87 : decode cX7_field 87 = .ok (.ireturn, 1) := by decide +kernel
theorem dX7_field_43 : decode cX7_field 43 = .ok (.iconst (-1), 1) := by decide +kernel
theorem dX7_field_44 : decode cX7_field 44 = .ok (.ireturn, 1) := by decide +kernel
def FOK (S : cS) (N : Nat) (x y w : Int32) : Prop := ¬ rholds N x = 0 ∧ ¬ p_isL y = 0 ∧ ¬ t_isFree (kF S 2) N w = 0 ∧ ¬ t_up (kF S 2) N 120 x = w
def FLD (S u : cS) (N : Nat) (x y w : Int32) : Prop := TI u N ∧ kF u 0 = kF S 0 ∧ kF u 1 = kF S 1 ∧ kF u 2 = a_f2 (kF S 2) (kF S 3) N x w ∧ kF u 3 = a_f3 (kF S 3) N x ∧ kF u 4 = a_g (kF S 4) (kF S 3) N x w ∧ kF u 5 = a_g (kF S 5) (kF S 3) N x y ∧ TY u 2 0 0 0 0 0
