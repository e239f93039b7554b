theorem dX11_readsCheck_0 : decode cX11_readsCheck 0 = .ok (.aload_n 0, 1) := by decide +kernel
theorem dX11_readsCheck_1 : decode cX11_readsCheck 1 = .ok (.dup, 1) := by decide +kernel
theorem dX11_readsCheck_2 : decode cX11_readsCheck 2 = .ok (.getfield 101, 3) := by decide +kernel
theorem dX11_readsCheck_5 : decode cX11_readsCheck 5 = .ok (.iconst 1, 1) := by decide +kernel
theorem dX11_readsCheck_6 : decode cX11_readsCheck 6 = .ok (.iadd, 1) := by decide +kernel
theorem dX11_readsCheck_7 : decode cX11_readsCheck 7 = .ok (.putfield 101, 3) := by decide +kernel
theorem dX11_readsCheck_10 : decode cX11_readsCheck 10 = .ok (.aload_n 0, 1) := by decide +kernel
theorem dX11_readsCheck_11 : decode cX11_readsCheck 11 = .ok (.invokevirtual 111, 3) := by decide +kernel
theorem dX11_readsCheck_14 : decode cX11_readsCheck 14 = .ok (.aload_n 0, 1) := by decide +kernel
theorem dX11_readsCheck_15 : decode cX11_readsCheck 15 = .ok (.iload_n 1, 1) := by decide +kernel
theorem dX11_readsCheck_16 : decode cX11_readsCheck 16 = .ok (.iconst 0, 1) := by decide +kernel
theorem dX11_readsCheck_17 : decode cX11_readsCheck 17 = .ok (.iconst 2, 1) := by decide +kernel
theorem dX11_readsCheck_18 : decode cX11_readsCheck 18 = .ok (.invokevirtual 163, 3) := by decide +kernel
theorem dX11_readsCheck_21 : decode cX11_readsCheck 21 = .ok (.aload_n 0, 1) := by decide +kernel
theorem dX11_readsCheck_22 : decode cX11_readsCheck 22 = .ok (.iload_n 1, 1) := by decide +kernel
theorem dX11_readsCheck_23 : decode cX11_readsCheck 23 = .ok (.bipush 10, 2) := by decide +kernel
theorem dX11_readsCheck_25 : decode cX11_readsCheck 25 = .ok (.iload_n 2, 1) := by decide +kernel
theorem dX11_readsCheck_26 : decode cX11_readsCheck 26 = .ok (.invokevirtual 163, 3) := by decide +kernel
theorem dX11_readsCheck_29 : decode cX11_readsCheck 29 = .ok (.aload_n 0, 1) := by decide +kernel
theorem dX11_readsCheck_30 : decode cX11_readsCheck 30 = .ok (.iload_n 1, 1) := by decide +kernel
theorem dX11_readsCheck_31 : decode cX11_readsCheck 31 = .ok (.iconst 4, 1) := by decide +kernel
theorem dX11_readsCheck_32 : decode cX11_readsCheck 32 = .ok (.iload_n 2, 1) := by decide +kernel
theorem dX11_readsCheck_33 : decode cX11_readsCheck 33 = .ok (.iconst 2, 1) := by decide +kernel
theorem dX11_readsCheck_34 : decode cX11_readsCheck 34 = .ok (.if_icmp .ne 7, 3) := by decide +kernel
theorem dX11_readsCheck_37 : decode cX11_readsCheck 37 = .ok (.iconst 1, 1) := by decide +kernel
theorem dX11_readsCheck_38 : decode cX11_readsCheck 38 = .ok (.goto 4, 3) := by decide +kernel
theorem dX11_readsCheck_41 : decode cX11_readsCheck 41 = .ok (.iconst 2, 1) := by decide +kernel
theorem dX11_readsCheck_42 : decode cX11_readsCheck 42 = .ok (.invokevirtual 163, 3) := by decide +kernel
theorem dX11_readsCheck_45 : decode cX11_readsCheck 45 = .ok (.aload_n 0, 1) := by decide +kernel
theorem dX11_readsCheck_46 : decode cX11_readsCheck 46 = .ok (.bipush 40, 2) := by decide +kernel
theorem dX11_readsCheck_48 : decode cX11_readsCheck 48 = .ok (.invokevirtual 167, 3) := by decide +kernel
theorem dX11_readsCheck_51 : decode cX11_readsCheck 51 = .ok (.aload_n 0, 1) := by decide +kernel
theorem dX11_readsCheck_52 : decode cX11_readsCheck 52 = .ok (.getfield 108, 3) := by decide +kernel
theorem dX11_readsCheck_55 : decode cX11_readsCheck 55 = .ok (.sipush (-1009), 3) := by decide +kernel
theorem dX11_readsCheck_58 : decode cX11_readsCheck 58 = .ok (.if_icmp .ne 11, 3) := by decide +kernel
theorem dX11_readsCheck_61 : decode cX11_readsCheck 61 = .ok (.aload_n 0, 1) := by decide +kernel
theorem dX11_readsCheck_62 : decode cX11_readsCheck 62 = .ok (.iload_n 1, 1) := by decide +kernel
theorem dX11_readsCheck_63 : decode cX11_readsCheck 63 = .ok (.invokevirtual 170, 3) := by decide +kernel
theorem dX11_readsCheck_66 : decode cX11_readsCheck 66 = .ok (.goto 4, 3) := by decide +kernel
theorem dX11_readsCheck_69 : decode cX11_readsCheck 69 = .ok (.iconst 0, 1) := by decide +kernel
theorem dX11_readsCheck_70 : decode cX11_readsCheck 70 = .ok (.istore_n 3, 1) := by decide +kernel
theorem dX11_readsCheck_71 : decode cX11_readsCheck 71 = .ok (.aload_n 0, 1) := by decide +kernel
theorem dX11_readsCheck_72 : decode cX11_readsCheck 72 = .ok (.bipush 44, 2) := by decide +kernel
theorem dX11_readsCheck_74 : decode cX11_readsCheck 74 = .ok (.invokevirtual 167, 3) := by decide +kernel
theorem dX11_readsCheck_77 : decode cX11_readsCheck 77 = .ok (.aload_n 0, 1) := by decide +kernel
theorem dX11_readsCheck_78 : decode cX11_readsCheck 78 = .ok (.getfield 108, 3) := by decide +kernel
theorem dX11_readsCheck_81 : decode cX11_readsCheck 81 = .ok (.sipush (-1009), 3) := by decide +kernel
theorem dX11_readsCheck_84 : decode cX11_readsCheck 84 = .ok (.if_icmp .ne 11, 3) := by decide +kernel
theorem dX11_readsCheck_87 : decode cX11_readsCheck 87 = .ok (.aload_n 0, 1) := by decide +kernel
theorem dX11_readsCheck_88 : decode cX11_readsCheck 88 = .ok (.iload_n 1, 1) := by decide +kernel
theorem dX11_readsCheck_89 : decode cX11_readsCheck 89 = .ok (.invokevirtual 170, 3) := by decide +kernel
theorem dX11_readsCheck_92 : decode cX11_readsCheck 92 = .ok (.goto 4, 3) := by decide +kernel
theorem dX11_readsCheck_95 : decode cX11_readsCheck 95 = .ok (.iconst 0, 1) := by decide +kernel
theorem dX11_readsCheck_96 : decode cX11_readsCheck 96 = .ok (.istore 4, 2) := by decide +kernel
theorem dX11_readsCheck_98 : decode cX11_readsCheck 98 = .ok (.iload 4, 2) := by decide +kernel
theorem dX11_readsCheck_100 : decode cX11_readsCheck 100 = .ok (.iload_n 3, 1) := by decide +kernel
theorem dX11_readsCheck_101 : decode cX11_readsCheck 101 = .ok (.if_icmp .ge 11, 3) := by decide +kernel
theorem dX11_readsCheck_104 : decode cX11_readsCheck 104 = .ok (.aload_n 0, 1) := by decide +kernel
theorem dX11_readsCheck_105 : decode cX11_readsCheck 105 = .ok (.aload_n 0, 1) := by decide +kernel
theorem dX11_readsCheck_106 : decode cX11_readsCheck 106 = .ok (.getfield 132, 3) := by decide +kernel
theorem dX11_readsCheck_109 : decode cX11_readsCheck 109 = .ok (.invokevirtual 118, 3) := by decide +kernel
theorem dX11_readsCheck_112 : decode cX11_readsCheck 112 = .ok (.aload_n 0, 1) := by decide +kernel
theorem dX11_readsCheck_113 : decode cX11_readsCheck 113 = .ok (.bipush 41, 2) := by decide +kernel
theorem dX11_readsCheck_115 : decode cX11_readsCheck 115 = .ok (.invokevirtual 167, 3) := by decide +kernel
theorem dX11_readsCheck_118 : decode cX11_readsCheck 118 = .ok (.aload_n 0, 1) := by decide +kernel
theorem dX11_readsCheck_119 : decode cX11_readsCheck 119 = .ok (.iload_n 1, 1) := by decide +kernel
theorem dX11_readsCheck_120 : decode cX11_readsCheck 120 = .ok (.bipush 11, 2) := by decide +kernel
theorem dX11_readsCheck_122 : decode cX11_readsCheck 122 = .ok (.iload_n 3, 1) := by decide +kernel
theorem dX11_readsCheck_123 : decode cX11_readsCheck 123 = .ok (.invokevirtual 163, 3) := by decide +kernel
theorem dX11_readsCheck_126 : decode cX11_readsCheck 126 = .ok (.aload_n 0, 1) := by decide +kernel
theorem dX11_readsCheck_127 : decode cX11_readsCheck 127 = .ok (.iload_n 1, 1) := by decide +kernel
theorem dX11_readsCheck_128 : decode cX11_readsCheck 128 = .ok (.bipush 12, 2) := by decide +kernel
theorem dX11_readsCheck_130 : decode cX11_readsCheck 130 = .ok (.iload 4, 2) := by decide +kernel
theorem dX11_readsCheck_132 : decode cX11_readsCheck 132 = .ok (.invokevirtual 163, 3) := by decide +kernel
theorem dX11_readsCheck_135 : decode cX11_readsCheck 135 = .ok (.return_, 1) := by decide +kernel
theorem vc_X11_readsCheck_0 {G : zG} {d : Nat} {Q : Option zV → zHp → Prop} (p1 : Int) (p2 : Int) (h : zHp) (hS : zSh h) (hd : 4 ≤ d)  
    (hv : ((-2147483648 ≤ (gI h 343 15) + 1 ∧ (gI h 343 15) + 1 ≤ 2147483647) ∧ (∀ h1 : zHp, h1 = sI h 343 15 ((gI h 343 15) + 1) → (wpN G (d - 1) M_X11_blanks 0 (zar 0 [vR 343]) [] h1 (qV (fun h4 => zSh h4 ∧ (wpN G (d - 1) M_X11_writes 0 (zar 0 [vR 343, vI p1, vI 0, vI 2]) [] h4 (qV (fun h8 => zSh h8 ∧ (wpN G (d - 1) M_X11_writes 0 (zar 0 [vR 343, vI p1, vI 10, vI p2]) [] h8 (qV (fun h12 => zSh h12 ∧ ((p2 ≠ 2 → (wpN G (d - 1) M_X11_writes 0 (zar 0 [vR 343, vI p1, vI 4, vI 2]) [] h12 (qV (fun h17 => zSh h17 ∧ (wpN G (d - 1) M_X11_expects 0 (zar 0 [vR 343, vI 40]) [] h17 (qV (fun h21 => zSh h21 ∧ (((gI h21 343 16) ≠ (-1009) → (wpN G (d - 1) M_X11_expects 0 (zar 0 [vR 343, vI 44]) [] h21 (qV (fun h26 => zSh h26 ∧ (((gI h26 343 16) ≠ (-1009) → (wpN G (d - 1) M_X11_expects 0 (zar 0 [vR 343, vI 41]) [] h26 (qV (fun h32 => zSh h32 ∧ (wpN G (d - 1) M_X11_writes 0 (zar 0 [vR 343, vI p1, vI 11, vI 0]) [] h32 (qV (fun h36 => zSh h36 ∧ (wpN G (d - 1) M_X11_writes 0 (zar 0 [vR 343, vI p1, vI 12, vI 0]) [] h36 (qV (fun h40 => zSh h40 ∧ Q none h40)))))))))) ∧ ((gI h26 343 16) = (-1009) → (wpN G (d - 1) M_X11_siblingNamed 0 (zar 0 [vR 343, vI p1]) [] h26 (qI (fun z43 h44 => zSh h44 ∧ ((0 ≤ z43 → (wpN G (d - 1) M_X11_expects 0 (zar 0 [vR 343, vI 41]) [] h44 (qV (fun h49 => zSh h49 ∧ (wpN G (d - 1) M_X11_writes 0 (zar 0 [vR 343, vI p1, vI 11, vI 0]) [] h49 (qV (fun h53 => zSh h53 ∧ (wpN G (d - 1) M_X11_writes 0 (zar 0 [vR 343, vI p1, vI 12, vI z43]) [] h53 (qV (fun h57 => zSh h57 ∧ Q none h57)))))))))) ∧ (z43 < 0 → (wpN G (d - 1) M_X11_faults 0 (zar 0 [vR 343, vI (gI h44 343 18)]) [] h44 (qV (fun h61 => zSh h61 ∧ (wpN G (d - 1) M_X11_expects 0 (zar 0 [vR 343, vI 41]) [] h61 (qV (fun h65 => zSh h65 ∧ (wpN G (d - 1) M_X11_writes 0 (zar 0 [vR 343, vI p1, vI 11, vI 0]) [] h65 (qV (fun h69 => zSh h69 ∧ (wpN G (d - 1) M_X11_writes 0 (zar 0 [vR 343, vI p1, vI 12, vI z43]) [] h69 (qV (fun h73 => zSh h73 ∧ Q none h73))))))))))))))))))))))) ∧ ((gI h21 343 16) = (-1009) → (wpN G (d - 1) M_X11_siblingNamed 0 (zar 0 [vR 343, vI p1]) [] h21 (qI (fun z76 h77 => zSh h77 ∧ (wpN G (d - 1) M_X11_expects 0 (zar 0 [vR 343, vI 44]) [] h77 (qV (fun h81 => zSh h81 ∧ (((gI h81 343 16) ≠ (-1009) → ((z76 ≤ 0 → (wpN G (d - 1) M_X11_expects 0 (zar 0 [vR 343, vI 41]) [] h81 (qV (fun h87 => zSh h87 ∧ (wpN G (d - 1) M_X11_writes 0 (zar 0 [vR 343, vI p1, vI 11, vI z76]) [] h87 (qV (fun h91 => zSh h91 ∧ (wpN G (d - 1) M_X11_writes 0 (zar 0 [vR 343, vI p1, vI 12, vI 0]) [] h91 (qV (fun h95 => zSh h95 ∧ Q none h95)))))))))) ∧ (0 < z76 → (wpN G (d - 1) M_X11_faults 0 (zar 0 [vR 343, vI (gI h81 343 18)]) [] h81 (qV (fun h99 => zSh h99 ∧ (wpN G (d - 1) M_X11_expects 0 (zar 0 [vR 343, vI 41]) [] h99 (qV (fun h103 => zSh h103 ∧ (wpN G (d - 1) M_X11_writes 0 (zar 0 [vR 343, vI p1, vI 11, vI z76]) [] h103 (qV (fun h107 => zSh h107 ∧ (wpN G (d - 1) M_X11_writes 0 (zar 0 [vR 343, vI p1, vI 12, vI 0]) [] h107 (qV (fun h111 => zSh h111 ∧ Q none h111))))))))))))))) ∧ ((gI h81 343 16) = (-1009) → (wpN G (d - 1) M_X11_siblingNamed 0 (zar 0 [vR 343, vI p1]) [] h81 (qI (fun z114 h115 => zSh h115 ∧ ((z76 ≤ z114 → (wpN G (d - 1) M_X11_expects 0 (zar 0 [vR 343, vI 41]) [] h115 (qV (fun h120 => zSh h120 ∧ (wpN G (d - 1) M_X11_writes 0 (zar 0 [vR 343, vI p1, vI 11, vI z76]) [] h120 (qV (fun h124 => zSh h124 ∧ (wpN G (d - 1) M_X11_writes 0 (zar 0 [vR 343, vI p1, vI 12, vI z114]) [] h124 (qV (fun h128 => zSh h128 ∧ Q none h128)))))))))) ∧ (z114 < z76 → (wpN G (d - 1) M_X11_faults 0 (zar 0 [vR 343, vI (gI h115 343 18)]) [] h115 (qV (fun h132 => zSh h132 ∧ (wpN G (d - 1) M_X11_expects 0 (zar 0 [vR 343, vI 41]) [] h132 (qV (fun h136 => zSh h136 ∧ (wpN G (d - 1) M_X11_writes 0 (zar 0 [vR 343, vI p1, vI 11, vI z76]) [] h136 (qV (fun h140 => zSh h140 ∧ (wpN G (d - 1) M_X11_writes 0 (zar 0 [vR 343, vI p1, vI 12, vI z114]) [] h140 (qV (fun h144 => zSh h144 ∧ Q none h144)))))))))))))))))))))))))))))))))) ∧ (p2 = 2 → (wpN G (d - 1) M_X11_writes 0 (zar 0 [vR 343, vI p1, vI 4, vI 1]) [] h12 (qV (fun h148 => zSh h148 ∧ (wpN G (d - 1) M_X11_expects 0 (zar 0 [vR 343, vI 40]) [] h148 (qV (fun h152 => zSh h152 ∧ (((gI h152 343 16) ≠ (-1009) → (wpN G (d - 1) M_X11_expects 0 (zar 0 [vR 343, vI 44]) [] h152 (qV (fun h157 => zSh h157 ∧ (((gI h157 343 16) ≠ (-1009) → (wpN G (d - 1) M_X11_expects 0 (zar 0 [vR 343, vI 41]) [] h157 (qV (fun h163 => zSh h163 ∧ (wpN G (d - 1) M_X11_writes 0 (zar 0 [vR 343, vI p1, vI 11, vI 0]) [] h163 (qV (fun h167 => zSh h167 ∧ (wpN G (d - 1) M_X11_writes 0 (zar 0 [vR 343, vI p1, vI 12, vI 0]) [] h167 (qV (fun h171 => zSh h171 ∧ Q none h171)))))))))) ∧ ((gI h157 343 16) = (-1009) → (wpN G (d - 1) M_X11_siblingNamed 0 (zar 0 [vR 343, vI p1]) [] h157 (qI (fun z174 h175 => zSh h175 ∧ ((0 ≤ z174 → (wpN G (d - 1) M_X11_expects 0 (zar 0 [vR 343, vI 41]) [] h175 (qV (fun h180 => zSh h180 ∧ (wpN G (d - 1) M_X11_writes 0 (zar 0 [vR 343, vI p1, vI 11, vI 0]) [] h180 (qV (fun h184 => zSh h184 ∧ (wpN G (d - 1) M_X11_writes 0 (zar 0 [vR 343, vI p1, vI 12, vI z174]) [] h184 (qV (fun h188 => zSh h188 ∧ Q none h188)))))))))) ∧ (z174 < 0 → (wpN G (d - 1) M_X11_faults 0 (zar 0 [vR 343, vI (gI h175 343 18)]) [] h175 (qV (fun h192 => zSh h192 ∧ (wpN G (d - 1) M_X11_expects 0 (zar 0 [vR 343, vI 41]) [] h192 (qV (fun h196 => zSh h196 ∧ (wpN G (d - 1) M_X11_writes 0 (zar 0 [vR 343, vI p1, vI 11, vI 0]) [] h196 (qV (fun h200 => zSh h200 ∧ (wpN G (d - 1) M_X11_writes 0 (zar 0 [vR 343, vI p1, vI 12, vI z174]) [] h200 (qV (fun h204 => zSh h204 ∧ Q none h204))))))))))))))))))))))) ∧ ((gI h152 343 16) = (-1009) → (wpN G (d - 1) M_X11_siblingNamed 0 (zar 0 [vR 343, vI p1]) [] h152 (qI (fun z207 h208 => zSh h208 ∧ (wpN G (d - 1) M_X11_expects 0 (zar 0 [vR 343, vI 44]) [] h208 (qV (fun h212 => zSh h212 ∧ (((gI h212 343 16) ≠ (-1009) → ((z207 ≤ 0 → (wpN G (d - 1) M_X11_expects 0 (zar 0 [vR 343, vI 41]) [] h212 (qV (fun h218 => zSh h218 ∧ (wpN G (d - 1) M_X11_writes 0 (zar 0 [vR 343, vI p1, vI 11, vI z207]) [] h218 (qV (fun h222 => zSh h222 ∧ (wpN G (d - 1) M_X11_writes 0 (zar 0 [vR 343, vI p1, vI 12, vI 0]) [] h222 (qV (fun h226 => zSh h226 ∧ Q none h226)))))))))) ∧ (0 < z207 → (wpN G (d - 1) M_X11_faults 0 (zar 0 [vR 343, vI (gI h212 343 18)]) [] h212 (qV (fun h230 => zSh h230 ∧ (wpN G (d - 1) M_X11_expects 0 (zar 0 [vR 343, vI 41]) [] h230 (qV (fun h234 => zSh h234 ∧ (wpN G (d - 1) M_X11_writes 0 (zar 0 [vR 343, vI p1, vI 11, vI z207]) [] h234 (qV (fun h238 => zSh h238 ∧ (wpN G (d - 1) M_X11_writes 0 (zar 0 [vR 343, vI p1, vI 12, vI 0]) [] h238 (qV (fun h242 => zSh h242 ∧ Q none h242))))))))))))))) ∧ ((gI h212 343 16) = (-1009) → (wpN G (d - 1) M_X11_siblingNamed 0 (zar 0 [vR 343, vI p1]) [] h212 (qI (fun z245 h246 => zSh h246 ∧ ((z207 ≤ z245 → (wpN G (d - 1) M_X11_expects 0 (zar 0 [vR 343, vI 41]) [] h246 (qV (fun h251 => zSh h251 ∧ (wpN G (d - 1) M_X11_writes 0 (zar 0 [vR 343, vI p1, vI 11, vI z207]) [] h251 (qV (fun h255 => zSh h255 ∧ (wpN G (d - 1) M_X11_writes 0 (zar 0 [vR 343, vI p1, vI 12, vI z245]) [] h255 (qV (fun h259 => zSh h259 ∧ Q none h259)))))))))) ∧ (z245 < z207 → (wpN G (d - 1) M_X11_faults 0 (zar 0 [vR 343, vI (gI h246 343 18)]) [] h246 (qV (fun h263 => zSh h263 ∧ (wpN G (d - 1) M_X11_expects 0 (zar 0 [vR 343, vI 41]) [] h263 (qV (fun h267 => zSh h267 ∧ (wpN G (d - 1) M_X11_writes 0 (zar 0 [vR 343, vI p1, vI 11, vI z207]) [] h267 (qV (fun h271 => zSh h271 ∧ (wpN G (d - 1) M_X11_writes 0 (zar 0 [vR 343, vI p1, vI 12, vI z245]) [] h271 (qV (fun h275 => zSh h275 ∧ Q none h275))))))))))))))))))))))))))))))))))))))))))))))) : wpN G d M_X11_readsCheck 0 [(0, vR 343), (1, vI p1), (2, vI p2)] [] h Q := by
  refine wq_aload_n 0 rfl rfl dX11_readsCheck_0 ?_
  refine wq_dup rfl dX11_readsCheck_1 ?_
  refine wq_getI fk_X11_101 tT_343 (fun _ _ _ => rfl) dX11_readsCheck_2 ?_
  refine wq_iconst (z := 1) (zlit rfl) dX11_readsCheck_5 ?_
  refine wq_iadd hv.1 dX11_readsCheck_6 ?_
  refine wq_putI fk_X11_101 tT_343 rfl rfl dX11_readsCheck_7 ?_
  refine wq_toph (fun h1 e2 => ?_)
  have sh1 : zSh h1 := zSh_of e2 hS
  refine wq_aload_n 0 rfl rfl dX11_readsCheck_10 ?_
  refine wN_V (As := []) vm_X11_blanks lk_X11_111 tT_343 rfl rfl (Nat.le_of_ble_eq_true rfl) (Nat.le_of_ble_eq_true rfl) (d' := d - 1) (by omega) dX11_readsCheck_11 (hv.2 h1 e2) (fun v9 h4 q5 => ?_)
  obtain ⟨rfl, hS6, q5⟩ := q5
  refine wq_st (st' := []) rfl ?_
  refine wq_aload_n 0 rfl rfl dX11_readsCheck_14 ?_
  refine wq_iload_n 1 rfl rfl dX11_readsCheck_15 ?_
  refine wq_iconst (z := 0) (zlit rfl) dX11_readsCheck_16 ?_
  refine wq_iconst (z := 2) (zlit rfl) dX11_readsCheck_17 ?_
  refine wN_V (As := [vI p1, vI 0, vI 2]) vm_X11_writes lk_X11_163 tT_343 rfl rfl (Nat.le_of_ble_eq_true rfl) (Nat.le_of_ble_eq_true rfl) (d' := d - 1) (by omega) dX11_readsCheck_18 q5 (fun v9 h8 q9 => ?_)
  obtain ⟨rfl, hS10, q9⟩ := q9
  refine wq_st (st' := []) rfl ?_
  refine wq_aload_n 0 rfl rfl dX11_readsCheck_21 ?_
  refine wq_iload_n 1 rfl rfl dX11_readsCheck_22 ?_
  refine wq_bipush (z := 10) (zlit rfl) rfl dX11_readsCheck_23 ?_
  refine wq_iload_n 2 rfl rfl dX11_readsCheck_25 ?_
  refine wN_V (As := [vI p1, vI 10, vI p2]) vm_X11_writes lk_X11_163 tT_343 rfl rfl (Nat.le_of_ble_eq_true rfl) (Nat.le_of_ble_eq_true rfl) (d' := d - 1) (by omega) dX11_readsCheck_26 q9 (fun v9 h12 q13 => ?_)
  obtain ⟨rfl, hS14, q13⟩ := q13
  refine wq_st (st' := []) rfl ?_
  refine wq_aload_n 0 rfl rfl dX11_readsCheck_29 ?_
  refine wq_iload_n 1 rfl rfl dX11_readsCheck_30 ?_
  refine wq_iconst (z := 4) (zlit rfl) dX11_readsCheck_31 ?_
  refine wq_iload_n 2 rfl rfl dX11_readsCheck_32 ?_
  refine wq_iconst (z := 2) (zlit rfl) dX11_readsCheck_33 ?_
  refine wq_icmp_ne 41 rfl dX11_readsCheck_34 (fun c15 => ?_) (fun c15 => ?_)
  · refine wq_iconst (z := 2) (zlit rfl) dX11_readsCheck_41 ?_
    refine wN_V (As := [vI p1, vI 4, vI 2]) vm_X11_writes lk_X11_163 tT_343 rfl rfl (Nat.le_of_ble_eq_true rfl) (Nat.le_of_ble_eq_true rfl) (d' := d - 1) (by omega) dX11_readsCheck_42 (q13.1 c15) (fun v9 h17 q18 => ?_)
    obtain ⟨rfl, hS19, q18⟩ := q18
    refine wq_st (st' := []) rfl ?_
    refine wq_aload_n 0 rfl rfl dX11_readsCheck_45 ?_
    refine wq_bipush (z := 40) (zlit rfl) rfl dX11_readsCheck_46 ?_
    refine wN_V (As := [vI 40]) vm_X11_expects lk_X11_167 tT_343 rfl rfl (Nat.le_of_ble_eq_true rfl) (Nat.le_of_ble_eq_true rfl) (d' := d - 1) (by omega) dX11_readsCheck_48 q18 (fun v9 h21 q22 => ?_)
    obtain ⟨rfl, hS23, q22⟩ := q22
    refine wq_st (st' := []) rfl ?_
    refine wq_aload_n 0 rfl rfl dX11_readsCheck_51 ?_
    refine wq_getI fk_X11_108 tT_343 (fun _ _ _ => rfl) dX11_readsCheck_52 ?_
    refine wq_sipush (z := -1009) (zlit rfl) rfl dX11_readsCheck_55 ?_
    refine wq_icmp_ne 69 rfl dX11_readsCheck_58 (fun c24 => ?_) (fun c24 => ?_)
    · refine wq_iconst (z := 0) (zlit rfl) dX11_readsCheck_69 ?_
      refine wq_istore_n (ls' := [(0, vR 343), (1, vI p1), (2, vI p2), (3, vI 0)]) rfl (by decide) rfl dX11_readsCheck_70 ?_
      refine wq_aload_n 0 rfl rfl dX11_readsCheck_71 ?_
      refine wq_bipush (z := 44) (zlit rfl) rfl dX11_readsCheck_72 ?_
      refine wN_V (As := [vI 44]) vm_X11_expects lk_X11_167 tT_343 rfl rfl (Nat.le_of_ble_eq_true rfl) (Nat.le_of_ble_eq_true rfl) (d' := d - 1) (by omega) dX11_readsCheck_74 (q22.1 c24) (fun v9 h26 q27 => ?_)
      obtain ⟨rfl, hS28, q27⟩ := q27
      refine wq_st (st' := []) rfl ?_
      refine wq_aload_n 0 rfl rfl dX11_readsCheck_77 ?_
      refine wq_getI fk_X11_108 tT_343 (fun _ _ _ => rfl) dX11_readsCheck_78 ?_
      refine wq_sipush (z := -1009) (zlit rfl) rfl dX11_readsCheck_81 ?_
      refine wq_icmp_ne 95 rfl dX11_readsCheck_84 (fun c29 => ?_) (fun c29 => ?_)
      · refine wq_iconst (z := 0) (zlit rfl) dX11_readsCheck_95 ?_
        refine wq_istore (ls' := [(0, vR 343), (1, vI p1), (2, vI p2), (3, vI 0), (4, vI 0)]) (by decide) rfl dX11_readsCheck_96 ?_
        refine wq_iload 4 rfl dX11_readsCheck_98 ?_
        refine wq_iload_n 3 rfl rfl dX11_readsCheck_100 ?_
        refine wq_icmp_ge 112 rfl dX11_readsCheck_101 (fun _ => ?_) (fun c30 => absurd c30 (by decide))
        refine wq_aload_n 0 rfl rfl dX11_readsCheck_112 ?_
        refine wq_bipush (z := 41) (zlit rfl) rfl dX11_readsCheck_113 ?_
        refine wN_V (As := [vI 41]) vm_X11_expects lk_X11_167 tT_343 rfl rfl (Nat.le_of_ble_eq_true rfl) (Nat.le_of_ble_eq_true rfl) (d' := d - 1) (by omega) dX11_readsCheck_115 (q27.1 c29) (fun v9 h32 q33 => ?_)
        obtain ⟨rfl, hS34, q33⟩ := q33
        refine wq_st (st' := []) rfl ?_
        refine wq_aload_n 0 rfl rfl dX11_readsCheck_118 ?_
        refine wq_iload_n 1 rfl rfl dX11_readsCheck_119 ?_
        refine wq_bipush (z := 11) (zlit rfl) rfl dX11_readsCheck_120 ?_
        refine wq_iload_n 3 rfl rfl dX11_readsCheck_122 ?_
        refine wN_V (As := [vI p1, vI 11, vI 0]) vm_X11_writes lk_X11_163 tT_343 rfl rfl (Nat.le_of_ble_eq_true rfl) (Nat.le_of_ble_eq_true rfl) (d' := d - 1) (by omega) dX11_readsCheck_123 q33 (fun v9 h36 q37 => ?_)
        obtain ⟨rfl, hS38, q37⟩ := q37
        refine wq_st (st' := []) rfl ?_
        refine wq_aload_n 0 rfl rfl dX11_readsCheck_126 ?_
        refine wq_iload_n 1 rfl rfl dX11_readsCheck_127 ?_
        refine wq_bipush (z := 12) (zlit rfl) rfl dX11_readsCheck_128 ?_
        refine wq_iload 4 rfl dX11_readsCheck_130 ?_
        refine wN_V (As := [vI p1, vI 12, vI 0]) vm_X11_writes lk_X11_163 tT_343 rfl rfl (Nat.le_of_ble_eq_true rfl) (Nat.le_of_ble_eq_true rfl) (d' := d - 1) (by omega) dX11_readsCheck_132 q37 (fun v9 h40 q41 => ?_)
        obtain ⟨rfl, hS42, q41⟩ := q41
        refine wq_st (st' := []) rfl ?_
        exact wp_vret rfl dX11_readsCheck_135 q41
      · refine wq_aload_n 0 rfl rfl dX11_readsCheck_87 ?_
        refine wq_iload_n 1 rfl rfl dX11_readsCheck_88 ?_
        refine wN_V (As := [vI p1]) vm_X11_siblingNamed lk_X11_170 tT_343 rfl rfl (Nat.le_of_ble_eq_true rfl) (Nat.le_of_ble_eq_true rfl) (d' := d - 1) (by omega) dX11_readsCheck_89 (q27.2 c29) (fun v9 h44 q45 => ?_)
        obtain ⟨z43, rfl, hS46, q45⟩ := q45
        refine wq_st (st' := [vI z43]) rfl ?_
        refine wq_goto 96 rfl dX11_readsCheck_92 ?_
        refine wq_istore (ls' := [(0, vR 343), (1, vI p1), (2, vI p2), (3, vI 0), (4, vI z43)]) (by decide) rfl dX11_readsCheck_96 ?_
        refine wq_iload 4 rfl dX11_readsCheck_98 ?_
        refine wq_iload_n 3 rfl rfl dX11_readsCheck_100 ?_
        refine wq_icmp_ge 112 rfl dX11_readsCheck_101 (fun c47 => ?_) (fun c47 => ?_)
        · refine wq_aload_n 0 rfl rfl dX11_readsCheck_112 ?_
          refine wq_bipush (z := 41) (zlit rfl) rfl dX11_readsCheck_113 ?_
          refine wN_V (As := [vI 41]) vm_X11_expects lk_X11_167 tT_343 rfl rfl (Nat.le_of_ble_eq_true rfl) (Nat.le_of_ble_eq_true rfl) (d' := d - 1) (by omega) dX11_readsCheck_115 (q45.1 c47) (fun v9 h49 q50 => ?_)
          obtain ⟨rfl, hS51, q50⟩ := q50
          refine wq_st (st' := []) rfl ?_
          refine wq_aload_n 0 rfl rfl dX11_readsCheck_118 ?_
          refine wq_iload_n 1 rfl rfl dX11_readsCheck_119 ?_
          refine wq_bipush (z := 11) (zlit rfl) rfl dX11_readsCheck_120 ?_
          refine wq_iload_n 3 rfl rfl dX11_readsCheck_122 ?_
          refine wN_V (As := [vI p1, vI 11, vI 0]) vm_X11_writes lk_X11_163 tT_343 rfl rfl (Nat.le_of_ble_eq_true rfl) (Nat.le_of_ble_eq_true rfl) (d' := d - 1) (by omega) dX11_readsCheck_123 q50 (fun v9 h53 q54 => ?_)
          obtain ⟨rfl, hS55, q54⟩ := q54
          refine wq_st (st' := []) rfl ?_
          refine wq_aload_n 0 rfl rfl dX11_readsCheck_126 ?_
          refine wq_iload_n 1 rfl rfl dX11_readsCheck_127 ?_
          refine wq_bipush (z := 12) (zlit rfl) rfl dX11_readsCheck_128 ?_
          refine wq_iload 4 rfl dX11_readsCheck_130 ?_
          refine wN_V (As := [vI p1, vI 12, vI z43]) vm_X11_writes lk_X11_163 tT_343 rfl rfl (Nat.le_of_ble_eq_true rfl) (Nat.le_of_ble_eq_true rfl) (d' := d - 1) (by omega) dX11_readsCheck_132 q54 (fun v9 h57 q58 => ?_)
          obtain ⟨rfl, hS59, q58⟩ := q58
          refine wq_st (st' := []) rfl ?_
          exact wp_vret rfl dX11_readsCheck_135 q58
        · refine wq_aload_n 0 rfl rfl dX11_readsCheck_104 ?_
          refine wq_aload_n 0 rfl rfl dX11_readsCheck_105 ?_
          refine wq_getI fk_X11_132 tT_343 (fun _ _ _ => rfl) dX11_readsCheck_106 ?_
          refine wN_V (As := [vI (gI h44 343 18)]) vm_X11_faults lk_X11_118 tT_343 rfl rfl (Nat.le_of_ble_eq_true rfl) (Nat.le_of_ble_eq_true rfl) (d' := d - 1) (by omega) dX11_readsCheck_109 (q45.2 c47) (fun v9 h61 q62 => ?_)
          obtain ⟨rfl, hS63, q62⟩ := q62
          refine wq_st (st' := []) rfl ?_
          refine wq_aload_n 0 rfl rfl dX11_readsCheck_112 ?_
          refine wq_bipush (z := 41) (zlit rfl) rfl dX11_readsCheck_113 ?_
          refine wN_V (As := [vI 41]) vm_X11_expects lk_X11_167 tT_343 rfl rfl (Nat.le_of_ble_eq_true rfl) (Nat.le_of_ble_eq_true rfl) (d' := d - 1) (by omega) dX11_readsCheck_115 q62 (fun v9 h65 q66 => ?_)
          obtain ⟨rfl, hS67, q66⟩ := q66
          refine wq_st (st' := []) rfl ?_
          refine wq_aload_n 0 rfl rfl dX11_readsCheck_118 ?_
          refine wq_iload_n 1 rfl rfl dX11_readsCheck_119 ?_
          refine wq_bipush (z := 11) (zlit rfl) rfl dX11_readsCheck_120 ?_
          refine wq_iload_n 3 rfl rfl dX11_readsCheck_122 ?_
          refine wN_V (As := [vI p1, vI 11, vI 0]) vm_X11_writes lk_X11_163 tT_343 rfl rfl (Nat.le_of_ble_eq_true rfl) (Nat.le_of_ble_eq_true rfl) (d' := d - 1) (by omega) dX11_readsCheck_123 q66 (fun v9 h69 q70 => ?_)
          obtain ⟨rfl, hS71, q70⟩ := q70
          refine wq_st (st' := []) rfl ?_
          refine wq_aload_n 0 rfl rfl dX11_readsCheck_126 ?_
          refine wq_iload_n 1 rfl rfl dX11_readsCheck_127 ?_
          refine wq_bipush (z := 12) (zlit rfl) rfl dX11_readsCheck_128 ?_
          refine wq_iload 4 rfl dX11_readsCheck_130 ?_
          refine wN_V (As := [vI p1, vI 12, vI z43]) vm_X11_writes lk_X11_163 tT_343 rfl rfl (Nat.le_of_ble_eq_true rfl) (Nat.le_of_ble_eq_true rfl) (d' := d - 1) (by omega) dX11_readsCheck_132 q70 (fun v9 h73 q74 => ?_)
          obtain ⟨rfl, hS75, q74⟩ := q74
          refine wq_st (st' := []) rfl ?_
          exact wp_vret rfl dX11_readsCheck_135 q74
    · refine wq_aload_n 0 rfl rfl dX11_readsCheck_61 ?_
      refine wq_iload_n 1 rfl rfl dX11_readsCheck_62 ?_
      refine wN_V (As := [vI p1]) vm_X11_siblingNamed lk_X11_170 tT_343 rfl rfl (Nat.le_of_ble_eq_true rfl) (Nat.le_of_ble_eq_true rfl) (d' := d - 1) (by omega) dX11_readsCheck_63 (q22.2 c24) (fun v9 h77 q78 => ?_)
      obtain ⟨z76, rfl, hS79, q78⟩ := q78
      refine wq_st (st' := [vI z76]) rfl ?_
      refine wq_goto 70 rfl dX11_readsCheck_66 ?_
      refine wq_istore_n (ls' := [(0, vR 343), (1, vI p1), (2, vI p2), (3, vI z76)]) rfl (by decide) rfl dX11_readsCheck_70 ?_
      refine wq_aload_n 0 rfl rfl dX11_readsCheck_71 ?_
      refine wq_bipush (z := 44) (zlit rfl) rfl dX11_readsCheck_72 ?_
      refine wN_V (As := [vI 44]) vm_X11_expects lk_X11_167 tT_343 rfl rfl (Nat.le_of_ble_eq_true rfl) (Nat.le_of_ble_eq_true rfl) (d' := d - 1) (by omega) dX11_readsCheck_74 q78 (fun v9 h81 q82 => ?_)
      obtain ⟨rfl, hS83, q82⟩ := q82
      refine wq_st (st' := []) rfl ?_
      refine wq_aload_n 0 rfl rfl dX11_readsCheck_77 ?_
      refine wq_getI fk_X11_108 tT_343 (fun _ _ _ => rfl) dX11_readsCheck_78 ?_
      refine wq_sipush (z := -1009) (zlit rfl) rfl dX11_readsCheck_81 ?_
      refine wq_icmp_ne 95 rfl dX11_readsCheck_84 (fun c84 => ?_) (fun c84 => ?_)
      · refine wq_iconst (z := 0) (zlit rfl) dX11_readsCheck_95 ?_
        refine wq_istore (ls' := [(0, vR 343), (1, vI p1), (2, vI p2), (3, vI z76), (4, vI 0)]) (by decide) rfl dX11_readsCheck_96 ?_
        refine wq_iload 4 rfl dX11_readsCheck_98 ?_
        refine wq_iload_n 3 rfl rfl dX11_readsCheck_100 ?_
        refine wq_icmp_ge 112 rfl dX11_readsCheck_101 (fun c85 => ?_) (fun c85 => ?_)
        · refine wq_aload_n 0 rfl rfl dX11_readsCheck_112 ?_
          refine wq_bipush (z := 41) (zlit rfl) rfl dX11_readsCheck_113 ?_
          refine wN_V (As := [vI 41]) vm_X11_expects lk_X11_167 tT_343 rfl rfl (Nat.le_of_ble_eq_true rfl) (Nat.le_of_ble_eq_true rfl) (d' := d - 1) (by omega) dX11_readsCheck_115 ((q82.1 c84).1 c85) (fun v9 h87 q88 => ?_)
          obtain ⟨rfl, hS89, q88⟩ := q88
          refine wq_st (st' := []) rfl ?_
          refine wq_aload_n 0 rfl rfl dX11_readsCheck_118 ?_
          refine wq_iload_n 1 rfl rfl dX11_readsCheck_119 ?_
          refine wq_bipush (z := 11) (zlit rfl) rfl dX11_readsCheck_120 ?_
          refine wq_iload_n 3 rfl rfl dX11_readsCheck_122 ?_
          refine wN_V (As := [vI p1, vI 11, vI z76]) vm_X11_writes lk_X11_163 tT_343 rfl rfl (Nat.le_of_ble_eq_true rfl) (Nat.le_of_ble_eq_true rfl) (d' := d - 1) (by omega) dX11_readsCheck_123 q88 (fun v9 h91 q92 => ?_)
          obtain ⟨rfl, hS93, q92⟩ := q92
          refine wq_st (st' := []) rfl ?_
          refine wq_aload_n 0 rfl rfl dX11_readsCheck_126 ?_
          refine wq_iload_n 1 rfl rfl dX11_readsCheck_127 ?_
          refine wq_bipush (z := 12) (zlit rfl) rfl dX11_readsCheck_128 ?_
          refine wq_iload 4 rfl dX11_readsCheck_130 ?_
          refine wN_V (As := [vI p1, vI 12, vI 0]) vm_X11_writes lk_X11_163 tT_343 rfl rfl (Nat.le_of_ble_eq_true rfl) (Nat.le_of_ble_eq_true rfl) (d' := d - 1) (by omega) dX11_readsCheck_132 q92 (fun v9 h95 q96 => ?_)
          obtain ⟨rfl, hS97, q96⟩ := q96
          refine wq_st (st' := []) rfl ?_
          exact wp_vret rfl dX11_readsCheck_135 q96
        · refine wq_aload_n 0 rfl rfl dX11_readsCheck_104 ?_
          refine wq_aload_n 0 rfl rfl dX11_readsCheck_105 ?_
          refine wq_getI fk_X11_132 tT_343 (fun _ _ _ => rfl) dX11_readsCheck_106 ?_
          refine wN_V (As := [vI (gI h81 343 18)]) vm_X11_faults lk_X11_118 tT_343 rfl rfl (Nat.le_of_ble_eq_true rfl) (Nat.le_of_ble_eq_true rfl) (d' := d - 1) (by omega) dX11_readsCheck_109 ((q82.1 c84).2 c85) (fun v9 h99 q100 => ?_)
          obtain ⟨rfl, hS101, q100⟩ := q100
          refine wq_st (st' := []) rfl ?_
          refine wq_aload_n 0 rfl rfl dX11_readsCheck_112 ?_
          refine wq_bipush (z := 41) (zlit rfl) rfl dX11_readsCheck_113 ?_
          refine wN_V (As := [vI 41]) vm_X11_expects lk_X11_167 tT_343 rfl rfl (Nat.le_of_ble_eq_true rfl) (Nat.le_of_ble_eq_true rfl) (d' := d - 1) (by omega) dX11_readsCheck_115 q100 (fun v9 h103 q104 => ?_)
          obtain ⟨rfl, hS105, q104⟩ := q104
          refine wq_st (st' := []) rfl ?_
          refine wq_aload_n 0 rfl rfl dX11_readsCheck_118 ?_
          refine wq_iload_n 1 rfl rfl dX11_readsCheck_119 ?_
          refine wq_bipush (z := 11) (zlit rfl) rfl dX11_readsCheck_120 ?_
          refine wq_iload_n 3 rfl rfl dX11_readsCheck_122 ?_
          refine wN_V (As := [vI p1, vI 11, vI z76]) vm_X11_writes lk_X11_163 tT_343 rfl rfl (Nat.le_of_ble_eq_true rfl) (Nat.le_of_ble_eq_true rfl) (d' := d - 1) (by omega) dX11_readsCheck_123 q104 (fun v9 h107 q108 => ?_)
          obtain ⟨rfl, hS109, q108⟩ := q108
          refine wq_st (st' := []) rfl ?_
          refine wq_aload_n 0 rfl rfl dX11_readsCheck_126 ?_
          refine wq_iload_n 1 rfl rfl dX11_readsCheck_127 ?_
          refine wq_bipush (z := 12) (zlit rfl) rfl dX11_readsCheck_128 ?_
          refine wq_iload 4 rfl dX11_readsCheck_130 ?_
          refine wN_V (As := [vI p1, vI 12, vI 0]) vm_X11_writes lk_X11_163 tT_343 rfl rfl (Nat.le_of_ble_eq_true rfl) (Nat.le_of_ble_eq_true rfl) (d' := d - 1) (by omega) dX11_readsCheck_132 q108 (fun v9 h111 q112 => ?_)
          obtain ⟨rfl, hS113, q112⟩ := q112
          refine wq_st (st' := []) rfl ?_
          exact wp_vret rfl dX11_readsCheck_135 q112
      · refine wq_aload_n 0 rfl rfl dX11_readsCheck_87 ?_
        refine wq_iload_n 1 rfl rfl dX11_readsCheck_88 ?_
        refine wN_V (As := [vI p1]) vm_X11_siblingNamed lk_X11_170 tT_343 rfl rfl (Nat.le_of_ble_eq_true rfl) (Nat.le_of_ble_eq_true rfl) (d' := d - 1) (by omega) dX11_readsCheck_89 (q82.2 c84) (fun v9 h115 q116 => ?_)
        obtain ⟨z114, rfl, hS117, q116⟩ := q116
        refine wq_st (st' := [vI z114]) rfl ?_
        refine wq_goto 96 rfl dX11_readsCheck_92 ?_
        refine wq_istore (ls' := [(0, vR 343), (1, vI p1), (2, vI p2), (3, vI z76), (4, vI z114)]) (by decide) rfl dX11_readsCheck_96 ?_
        refine wq_iload 4 rfl dX11_readsCheck_98 ?_
        refine wq_iload_n 3 rfl rfl dX11_readsCheck_100 ?_
        refine wq_icmp_ge 112 rfl dX11_readsCheck_101 (fun c118 => ?_) (fun c118 => ?_)
        · refine wq_aload_n 0 rfl rfl dX11_readsCheck_112 ?_
          refine wq_bipush (z := 41) (zlit rfl) rfl dX11_readsCheck_113 ?_
          refine wN_V (As := [vI 41]) vm_X11_expects lk_X11_167 tT_343 rfl rfl (Nat.le_of_ble_eq_true rfl) (Nat.le_of_ble_eq_true rfl) (d' := d - 1) (by omega) dX11_readsCheck_115 (q116.1 c118) (fun v9 h120 q121 => ?_)
          obtain ⟨rfl, hS122, q121⟩ := q121
          refine wq_st (st' := []) rfl ?_
          refine wq_aload_n 0 rfl rfl dX11_readsCheck_118 ?_
          refine wq_iload_n 1 rfl rfl dX11_readsCheck_119 ?_
          refine wq_bipush (z := 11) (zlit rfl) rfl dX11_readsCheck_120 ?_
          refine wq_iload_n 3 rfl rfl dX11_readsCheck_122 ?_
          refine wN_V (As := [vI p1, vI 11, vI z76]) vm_X11_writes lk_X11_163 tT_343 rfl rfl (Nat.le_of_ble_eq_true rfl) (Nat.le_of_ble_eq_true rfl) (d' := d - 1) (by omega) dX11_readsCheck_123 q121 (fun v9 h124 q125 => ?_)
          obtain ⟨rfl, hS126, q125⟩ := q125
          refine wq_st (st' := []) rfl ?_
          refine wq_aload_n 0 rfl rfl dX11_readsCheck_126 ?_
          refine wq_iload_n 1 rfl rfl dX11_readsCheck_127 ?_
          refine wq_bipush (z := 12) (zlit rfl) rfl dX11_readsCheck_128 ?_
          refine wq_iload 4 rfl dX11_readsCheck_130 ?_
          refine wN_V (As := [vI p1, vI 12, vI z114]) vm_X11_writes lk_X11_163 tT_343 rfl rfl (Nat.le_of_ble_eq_true rfl) (Nat.le_of_ble_eq_true rfl) (d' := d - 1) (by omega) dX11_readsCheck_132 q125 (fun v9 h128 q129 => ?_)
          obtain ⟨rfl, hS130, q129⟩ := q129
          refine wq_st (st' := []) rfl ?_
          exact wp_vret rfl dX11_readsCheck_135 q129
        · refine wq_aload_n 0 rfl rfl dX11_readsCheck_104 ?_
          refine wq_aload_n 0 rfl rfl dX11_readsCheck_105 ?_
          refine wq_getI fk_X11_132 tT_343 (fun _ _ _ => rfl) dX11_readsCheck_106 ?_
          refine wN_V (As := [vI (gI h115 343 18)]) vm_X11_faults lk_X11_118 tT_343 rfl rfl (Nat.le_of_ble_eq_true rfl) (Nat.le_of_ble_eq_true rfl) (d' := d - 1) (by omega) dX11_readsCheck_109 (q116.2 c118) (fun v9 h132 q133 => ?_)
          obtain ⟨rfl, hS134, q133⟩ := q133
          refine wq_st (st' := []) rfl ?_
          refine wq_aload_n 0 rfl rfl dX11_readsCheck_112 ?_
          refine wq_bipush (z := 41) (zlit rfl) rfl dX11_readsCheck_113 ?_
          refine wN_V (As := [vI 41]) vm_X11_expects lk_X11_167 tT_343 rfl rfl (Nat.le_of_ble_eq_true rfl) (Nat.le_of_ble_eq_true rfl) (d' := d - 1) (by omega) dX11_readsCheck_115 q133 (fun v9 h136 q137 => ?_)
          obtain ⟨rfl, hS138, q137⟩ := q137
          refine wq_st (st' := []) rfl ?_
          refine wq_aload_n 0 rfl rfl dX11_readsCheck_118 ?_
          refine wq_iload_n 1 rfl rfl dX11_readsCheck_119 ?_
          refine wq_bipush (z := 11) (zlit rfl) rfl dX11_readsCheck_120 ?_
          refine wq_iload_n 3 rfl rfl dX11_readsCheck_122 ?_
          refine wN_V (As := [vI p1, vI 11, vI z76]) vm_X11_writes lk_X11_163 tT_343 rfl rfl (Nat.le_of_ble_eq_true rfl) (Nat.le_of_ble_eq_true rfl) (d' := d - 1) (by omega) dX11_readsCheck_123 q137 (fun v9 h140 q141 => ?_)
          obtain ⟨rfl, hS142, q141⟩ := q141
          refine wq_st (st' := []) rfl ?_
          refine wq_aload_n 0 rfl rfl dX11_readsCheck_126 ?_
          refine wq_iload_n 1 rfl rfl dX11_readsCheck_127 ?_
          refine wq_bipush (z := 12) (zlit rfl) rfl dX11_readsCheck_128 ?_
          refine wq_iload 4 rfl dX11_readsCheck_130 ?_
          refine wN_V (As := [vI p1, vI 12, vI z114]) vm_X11_writes lk_X11_163 tT_343 rfl rfl (Nat.le_of_ble_eq_true rfl) (Nat.le_of_ble_eq_true rfl) (d' := d - 1) (by omega) dX11_readsCheck_132 q141 (fun v9 h144 q145 => ?_)
          obtain ⟨rfl, hS146, q145⟩ := q145
          refine wq_st (st' := []) rfl ?_
          exact wp_vret rfl dX11_readsCheck_135 q145
  · refine wq_iconst (z := 1) (zlit rfl) dX11_readsCheck_37 ?_
    refine wq_goto 42 rfl dX11_readsCheck_38 ?_
    refine wN_V (As := [vI p1, vI 4, vI 1]) vm_X11_writes lk_X11_163 tT_343 rfl rfl (Nat.le_of_ble_eq_true rfl) (Nat.le_of_ble_eq_true rfl) (d' := d - 1) (by omega) dX11_readsCheck_42 (q13.2 c15) (fun v9 h148 q149 => ?_)
    obtain ⟨rfl, hS150, q149⟩ := q149
    refine wq_st (st' := []) rfl ?_
    refine wq_aload_n 0 rfl rfl dX11_readsCheck_45 ?_
    refine wq_bipush (z := 40) (zlit rfl) rfl dX11_readsCheck_46 ?_
    refine wN_V (As := [vI 40]) vm_X11_expects lk_X11_167 tT_343 rfl rfl (Nat.le_of_ble_eq_true rfl) (Nat.le_of_ble_eq_true rfl) (d' := d - 1) (by omega) dX11_readsCheck_48 q149 (fun v9 h152 q153 => ?_)
    obtain ⟨rfl, hS154, q153⟩ := q153
    refine wq_st (st' := []) rfl ?_
    refine wq_aload_n 0 rfl rfl dX11_readsCheck_51 ?_
    refine wq_getI fk_X11_108 tT_343 (fun _ _ _ => rfl) dX11_readsCheck_52 ?_
    refine wq_sipush (z := -1009) (zlit rfl) rfl dX11_readsCheck_55 ?_
    refine wq_icmp_ne 69 rfl dX11_readsCheck_58 (fun c155 => ?_) (fun c155 => ?_)
    · refine wq_iconst (z := 0) (zlit rfl) dX11_readsCheck_69 ?_
      refine wq_istore_n (ls' := [(0, vR 343), (1, vI p1), (2, vI p2), (3, vI 0)]) rfl (by decide) rfl dX11_readsCheck_70 ?_
      refine wq_aload_n 0 rfl rfl dX11_readsCheck_71 ?_
      refine wq_bipush (z := 44) (zlit rfl) rfl dX11_readsCheck_72 ?_
      refine wN_V (As := [vI 44]) vm_X11_expects lk_X11_167 tT_343 rfl rfl (Nat.le_of_ble_eq_true rfl) (Nat.le_of_ble_eq_true rfl) (d' := d - 1) (by omega) dX11_readsCheck_74 (q153.1 c155) (fun v9 h157 q158 => ?_)
      obtain ⟨rfl, hS159, q158⟩ := q158
      refine wq_st (st' := []) rfl ?_
      refine wq_aload_n 0 rfl rfl dX11_readsCheck_77 ?_
      refine wq_getI fk_X11_108 tT_343 (fun _ _ _ => rfl) dX11_readsCheck_78 ?_
      refine wq_sipush (z := -1009) (zlit rfl) rfl dX11_readsCheck_81 ?_
      refine wq_icmp_ne 95 rfl dX11_readsCheck_84 (fun c160 => ?_) (fun c160 => ?_)
      · refine wq_iconst (z := 0) (zlit rfl) dX11_readsCheck_95 ?_
        refine wq_istore (ls' := [(0, vR 343), (1, vI p1), (2, vI p2), (3, vI 0), (4, vI 0)]) (by decide) rfl dX11_readsCheck_96 ?_
        refine wq_iload 4 rfl dX11_readsCheck_98 ?_
        refine wq_iload_n 3 rfl rfl dX11_readsCheck_100 ?_
        refine wq_icmp_ge 112 rfl dX11_readsCheck_101 (fun _ => ?_) (fun c161 => absurd c161 (by decide))
        refine wq_aload_n 0 rfl rfl dX11_readsCheck_112 ?_
        refine wq_bipush (z := 41) (zlit rfl) rfl dX11_readsCheck_113 ?_
        refine wN_V (As := [vI 41]) vm_X11_expects lk_X11_167 tT_343 rfl rfl (Nat.le_of_ble_eq_true rfl) (Nat.le_of_ble_eq_true rfl) (d' := d - 1) (by omega) dX11_readsCheck_115 (q158.1 c160) (fun v9 h163 q164 => ?_)
        obtain ⟨rfl, hS165, q164⟩ := q164
        refine wq_st (st' := []) rfl ?_
        refine wq_aload_n 0 rfl rfl dX11_readsCheck_118 ?_
        refine wq_iload_n 1 rfl rfl dX11_readsCheck_119 ?_
        refine wq_bipush (z := 11) (zlit rfl) rfl dX11_readsCheck_120 ?_
        refine wq_iload_n 3 rfl rfl dX11_readsCheck_122 ?_
        refine wN_V (As := [vI p1, vI 11, vI 0]) vm_X11_writes lk_X11_163 tT_343 rfl rfl (Nat.le_of_ble_eq_true rfl) (Nat.le_of_ble_eq_true rfl) (d' := d - 1) (by omega) dX11_readsCheck_123 q164 (fun v9 h167 q168 => ?_)
        obtain ⟨rfl, hS169, q168⟩ := q168
        refine wq_st (st' := []) rfl ?_
        refine wq_aload_n 0 rfl rfl dX11_readsCheck_126 ?_
        refine wq_iload_n 1 rfl rfl dX11_readsCheck_127 ?_
        refine wq_bipush (z := 12) (zlit rfl) rfl dX11_readsCheck_128 ?_
        refine wq_iload 4 rfl dX11_readsCheck_130 ?_
        refine wN_V (As := [vI p1, vI 12, vI 0]) vm_X11_writes lk_X11_163 tT_343 rfl rfl (Nat.le_of_ble_eq_true rfl) (Nat.le_of_ble_eq_true rfl) (d' := d - 1) (by omega) dX11_readsCheck_132 q168 (fun v9 h171 q172 => ?_)
        obtain ⟨rfl, hS173, q172⟩ := q172
        refine wq_st (st' := []) rfl ?_
        exact wp_vret rfl dX11_readsCheck_135 q172
      · refine wq_aload_n 0 rfl rfl dX11_readsCheck_87 ?_
        refine wq_iload_n 1 rfl rfl dX11_readsCheck_88 ?_
        refine wN_V (As := [vI p1]) vm_X11_siblingNamed lk_X11_170 tT_343 rfl rfl (Nat.le_of_ble_eq_true rfl) (Nat.le_of_ble_eq_true rfl) (d' := d - 1) (by omega) dX11_readsCheck_89 (q158.2 c160) (fun v9 h175 q176 => ?_)
        obtain ⟨z174, rfl, hS177, q176⟩ := q176
        refine wq_st (st' := [vI z174]) rfl ?_
        refine wq_goto 96 rfl dX11_readsCheck_92 ?_
        refine wq_istore (ls' := [(0, vR 343), (1, vI p1), (2, vI p2), (3, vI 0), (4, vI z174)]) (by decide) rfl dX11_readsCheck_96 ?_
        refine wq_iload 4 rfl dX11_readsCheck_98 ?_
        refine wq_iload_n 3 rfl rfl dX11_readsCheck_100 ?_
        refine wq_icmp_ge 112 rfl dX11_readsCheck_101 (fun c178 => ?_) (fun c178 => ?_)
        · refine wq_aload_n 0 rfl rfl dX11_readsCheck_112 ?_
          refine wq_bipush (z := 41) (zlit rfl) rfl dX11_readsCheck_113 ?_
          refine wN_V (As := [vI 41]) vm_X11_expects lk_X11_167 tT_343 rfl rfl (Nat.le_of_ble_eq_true rfl) (Nat.le_of_ble_eq_true rfl) (d' := d - 1) (by omega) dX11_readsCheck_115 (q176.1 c178) (fun v9 h180 q181 => ?_)
          obtain ⟨rfl, hS182, q181⟩ := q181
          refine wq_st (st' := []) rfl ?_
          refine wq_aload_n 0 rfl rfl dX11_readsCheck_118 ?_
          refine wq_iload_n 1 rfl rfl dX11_readsCheck_119 ?_
          refine wq_bipush (z := 11) (zlit rfl) rfl dX11_readsCheck_120 ?_
          refine wq_iload_n 3 rfl rfl dX11_readsCheck_122 ?_
          refine wN_V (As := [vI p1, vI 11, vI 0]) vm_X11_writes lk_X11_163 tT_343 rfl rfl (Nat.le_of_ble_eq_true rfl) (Nat.le_of_ble_eq_true rfl) (d' := d - 1) (by omega) dX11_readsCheck_123 q181 (fun v9 h184 q185 => ?_)
          obtain ⟨rfl, hS186, q185⟩ := q185
          refine wq_st (st' := []) rfl ?_
          refine wq_aload_n 0 rfl rfl dX11_readsCheck_126 ?_
          refine wq_iload_n 1 rfl rfl dX11_readsCheck_127 ?_
          refine wq_bipush (z := 12) (zlit rfl) rfl dX11_readsCheck_128 ?_
          refine wq_iload 4 rfl dX11_readsCheck_130 ?_
          refine wN_V (As := [vI p1, vI 12, vI z174]) vm_X11_writes lk_X11_163 tT_343 rfl rfl (Nat.le_of_ble_eq_true rfl) (Nat.le_of_ble_eq_true rfl) (d' := d - 1) (by omega) dX11_readsCheck_132 q185 (fun v9 h188 q189 => ?_)
          obtain ⟨rfl, hS190, q189⟩ := q189
          refine wq_st (st' := []) rfl ?_
          exact wp_vret rfl dX11_readsCheck_135 q189
        · refine wq_aload_n 0 rfl rfl dX11_readsCheck_104 ?_
          refine wq_aload_n 0 rfl rfl dX11_readsCheck_105 ?_
          refine wq_getI fk_X11_132 tT_343 (fun _ _ _ => rfl) dX11_readsCheck_106 ?_
          refine wN_V (As := [vI (gI h175 343 18)]) vm_X11_faults lk_X11_118 tT_343 rfl rfl (Nat.le_of_ble_eq_true rfl) (Nat.le_of_ble_eq_true rfl) (d' := d - 1) (by omega) dX11_readsCheck_109 (q176.2 c178) (fun v9 h192 q193 => ?_)
          obtain ⟨rfl, hS194, q193⟩ := q193
          refine wq_st (st' := []) rfl ?_
          refine wq_aload_n 0 rfl rfl dX11_readsCheck_112 ?_
          refine wq_bipush (z := 41) (zlit rfl) rfl dX11_readsCheck_113 ?_
          refine wN_V (As := [vI 41]) vm_X11_expects lk_X11_167 tT_343 rfl rfl (Nat.le_of_ble_eq_true rfl) (Nat.le_of_ble_eq_true rfl) (d' := d - 1) (by omega) dX11_readsCheck_115 q193 (fun v9 h196 q197 => ?_)
          obtain ⟨rfl, hS198, q197⟩ := q197
          refine wq_st (st' := []) rfl ?_
          refine wq_aload_n 0 rfl rfl dX11_readsCheck_118 ?_
          refine wq_iload_n 1 rfl rfl dX11_readsCheck_119 ?_
          refine wq_bipush (z := 11) (zlit rfl) rfl dX11_readsCheck_120 ?_
          refine wq_iload_n 3 rfl rfl dX11_readsCheck_122 ?_
          refine wN_V (As := [vI p1, vI 11, vI 0]) vm_X11_writes lk_X11_163 tT_343 rfl rfl (Nat.le_of_ble_eq_true rfl) (Nat.le_of_ble_eq_true rfl) (d' := d - 1) (by omega) dX11_readsCheck_123 q197 (fun v9 h200 q201 => ?_)
          obtain ⟨rfl, hS202, q201⟩ := q201
          refine wq_st (st' := []) rfl ?_
          refine wq_aload_n 0 rfl rfl dX11_readsCheck_126 ?_
          refine wq_iload_n 1 rfl rfl dX11_readsCheck_127 ?_
          refine wq_bipush (z := 12) (zlit rfl) rfl dX11_readsCheck_128 ?_
          refine wq_iload 4 rfl dX11_readsCheck_130 ?_
          refine wN_V (As := [vI p1, vI 12, vI z174]) vm_X11_writes lk_X11_163 tT_343 rfl rfl (Nat.le_of_ble_eq_true rfl) (Nat.le_of_ble_eq_true rfl) (d' := d - 1) (by omega) dX11_readsCheck_132 q201 (fun v9 h204 q205 => ?_)
          obtain ⟨rfl, hS206, q205⟩ := q205
          refine wq_st (st' := []) rfl ?_
          exact wp_vret rfl dX11_readsCheck_135 q205
    · refine wq_aload_n 0 rfl rfl dX11_readsCheck_61 ?_
      refine wq_iload_n 1 rfl rfl dX11_readsCheck_62 ?_
      refine wN_V (As := [vI p1]) vm_X11_siblingNamed lk_X11_170 tT_343 rfl rfl (Nat.le_of_ble_eq_true rfl) (Nat.le_of_ble_eq_true rfl) (d' := d - 1) (by omega) dX11_readsCheck_63 (q153.2 c155) (fun v9 h208 q209 => ?_)
      obtain ⟨z207, rfl, hS210, q209⟩ := q209
      refine wq_st (st' := [vI z207]) rfl ?_
      refine wq_goto 70 rfl dX11_readsCheck_66 ?_
      refine wq_istore_n (ls' := [(0, vR 343), (1, vI p1), (2, vI p2), (3, vI z207)]) rfl (by decide) rfl dX11_readsCheck_70 ?_
      refine wq_aload_n 0 rfl rfl dX11_readsCheck_71 ?_
      refine wq_bipush (z := 44) (zlit rfl) rfl dX11_readsCheck_72 ?_
      refine wN_V (As := [vI 44]) vm_X11_expects lk_X11_167 tT_343 rfl rfl (Nat.le_of_ble_eq_true rfl) (Nat.le_of_ble_eq_true rfl) (d' := d - 1) (by omega) dX11_readsCheck_74 q209 (fun v9 h212 q213 => ?_)
      obtain ⟨rfl, hS214, q213⟩ := q213
      refine wq_st (st' := []) rfl ?_
      refine wq_aload_n 0 rfl rfl dX11_readsCheck_77 ?_
      refine wq_getI fk_X11_108 tT_343 (fun _ _ _ => rfl) dX11_readsCheck_78 ?_
      refine wq_sipush (z := -1009) (zlit rfl) rfl dX11_readsCheck_81 ?_
      refine wq_icmp_ne 95 rfl dX11_readsCheck_84 (fun c215 => ?_) (fun c215 => ?_)
      · refine wq_iconst (z := 0) (zlit rfl) dX11_readsCheck_95 ?_
        refine wq_istore (ls' := [(0, vR 343), (1, vI p1), (2, vI p2), (3, vI z207), (4, vI 0)]) (by decide) rfl dX11_readsCheck_96 ?_
        refine wq_iload 4 rfl dX11_readsCheck_98 ?_
        refine wq_iload_n 3 rfl rfl dX11_readsCheck_100 ?_
        refine wq_icmp_ge 112 rfl dX11_readsCheck_101 (fun c216 => ?_) (fun c216 => ?_)
        · refine wq_aload_n 0 rfl rfl dX11_readsCheck_112 ?_
          refine wq_bipush (z := 41) (zlit rfl) rfl dX11_readsCheck_113 ?_
          refine wN_V (As := [vI 41]) vm_X11_expects lk_X11_167 tT_343 rfl rfl (Nat.le_of_ble_eq_true rfl) (Nat.le_of_ble_eq_true rfl) (d' := d - 1) (by omega) dX11_readsCheck_115 ((q213.1 c215).1 c216) (fun v9 h218 q219 => ?_)
          obtain ⟨rfl, hS220, q219⟩ := q219
          refine wq_st (st' := []) rfl ?_
          refine wq_aload_n 0 rfl rfl dX11_readsCheck_118 ?_
          refine wq_iload_n 1 rfl rfl dX11_readsCheck_119 ?_
          refine wq_bipush (z := 11) (zlit rfl) rfl dX11_readsCheck_120 ?_
          refine wq_iload_n 3 rfl rfl dX11_readsCheck_122 ?_
          refine wN_V (As := [vI p1, vI 11, vI z207]) vm_X11_writes lk_X11_163 tT_343 rfl rfl (Nat.le_of_ble_eq_true rfl) (Nat.le_of_ble_eq_true rfl) (d' := d - 1) (by omega) dX11_readsCheck_123 q219 (fun v9 h222 q223 => ?_)
          obtain ⟨rfl, hS224, q223⟩ := q223
          refine wq_st (st' := []) rfl ?_
          refine wq_aload_n 0 rfl rfl dX11_readsCheck_126 ?_
          refine wq_iload_n 1 rfl rfl dX11_readsCheck_127 ?_
          refine wq_bipush (z := 12) (zlit rfl) rfl dX11_readsCheck_128 ?_
          refine wq_iload 4 rfl dX11_readsCheck_130 ?_
          refine wN_V (As := [vI p1, vI 12, vI 0]) vm_X11_writes lk_X11_163 tT_343 rfl rfl (Nat.le_of_ble_eq_true rfl) (Nat.le_of_ble_eq_true rfl) (d' := d - 1) (by omega) dX11_readsCheck_132 q223 (fun v9 h226 q227 => ?_)
          obtain ⟨rfl, hS228, q227⟩ := q227
          refine wq_st (st' := []) rfl ?_
          exact wp_vret rfl dX11_readsCheck_135 q227
        · refine wq_aload_n 0 rfl rfl dX11_readsCheck_104 ?_
          refine wq_aload_n 0 rfl rfl dX11_readsCheck_105 ?_
          refine wq_getI fk_X11_132 tT_343 (fun _ _ _ => rfl) dX11_readsCheck_106 ?_
          refine wN_V (As := [vI (gI h212 343 18)]) vm_X11_faults lk_X11_118 tT_343 rfl rfl (Nat.le_of_ble_eq_true rfl) (Nat.le_of_ble_eq_true rfl) (d' := d - 1) (by omega) dX11_readsCheck_109 ((q213.1 c215).2 c216) (fun v9 h230 q231 => ?_)
          obtain ⟨rfl, hS232, q231⟩ := q231
          refine wq_st (st' := []) rfl ?_
          refine wq_aload_n 0 rfl rfl dX11_readsCheck_112 ?_
          refine wq_bipush (z := 41) (zlit rfl) rfl dX11_readsCheck_113 ?_
          refine wN_V (As := [vI 41]) vm_X11_expects lk_X11_167 tT_343 rfl rfl (Nat.le_of_ble_eq_true rfl) (Nat.le_of_ble_eq_true rfl) (d' := d - 1) (by omega) dX11_readsCheck_115 q231 (fun v9 h234 q235 => ?_)
          obtain ⟨rfl, hS236, q235⟩ := q235
          refine wq_st (st' := []) rfl ?_
          refine wq_aload_n 0 rfl rfl dX11_readsCheck_118 ?_
          refine wq_iload_n 1 rfl rfl dX11_readsCheck_119 ?_
          refine wq_bipush (z := 11) (zlit rfl) rfl dX11_readsCheck_120 ?_
          refine wq_iload_n 3 rfl rfl dX11_readsCheck_122 ?_
          refine wN_V (As := [vI p1, vI 11, vI z207]) vm_X11_writes lk_X11_163 tT_343 rfl rfl (Nat.le_of_ble_eq_true rfl) (Nat.le_of_ble_eq_true rfl) (d' := d - 1) (by omega) dX11_readsCheck_123 q235 (fun v9 h238 q239 => ?_)
          obtain ⟨rfl, hS240, q239⟩ := q239
          refine wq_st (st' := []) rfl ?_
          refine wq_aload_n 0 rfl rfl dX11_readsCheck_126 ?_
          refine wq_iload_n 1 rfl rfl dX11_readsCheck_127 ?_
          refine wq_bipush (z := 12) (zlit rfl) rfl dX11_readsCheck_128 ?_
          refine wq_iload 4 rfl dX11_readsCheck_130 ?_
          refine wN_V (As := [vI p1, vI 12, vI 0]) vm_X11_writes lk_X11_163 tT_343 rfl rfl (Nat.le_of_ble_eq_true rfl) (Nat.le_of_ble_eq_true rfl) (d' := d - 1) (by omega) dX11_readsCheck_132 q239 (fun v9 h242 q243 => ?_)
          obtain ⟨rfl, hS244, q243⟩ := q243
          refine wq_st (st' := []) rfl ?_
          exact wp_vret rfl dX11_readsCheck_135 q243
      · refine wq_aload_n 0 rfl rfl dX11_readsCheck_87 ?_
        refine wq_iload_n 1 rfl rfl dX11_readsCheck_88 ?_
        refine wN_V (As := [vI p1]) vm_X11_siblingNamed lk_X11_170 tT_343 rfl rfl (Nat.le_of_ble_eq_true rfl) (Nat.le_of_ble_eq_true rfl) (d' := d - 1) (by omega) dX11_readsCheck_89 (q213.2 c215) (fun v9 h246 q247 => ?_)
        obtain ⟨z245, rfl, hS248, q247⟩ := q247
        refine wq_st (st' := [vI z245]) rfl ?_
        refine wq_goto 96 rfl dX11_readsCheck_92 ?_
        refine wq_istore (ls' := [(0, vR 343), (1, vI p1), (2, vI p2), (3, vI z207), (4, vI z245)]) (by decide) rfl dX11_readsCheck_96 ?_
        refine wq_iload 4 rfl dX11_readsCheck_98 ?_
        refine wq_iload_n 3 rfl rfl dX11_readsCheck_100 ?_
        refine wq_icmp_ge 112 rfl dX11_readsCheck_101 (fun c249 => ?_) (fun c249 => ?_)
        · refine wq_aload_n 0 rfl rfl dX11_readsCheck_112 ?_
          refine wq_bipush (z := 41) (zlit rfl) rfl dX11_readsCheck_113 ?_
          refine wN_V (As := [vI 41]) vm_X11_expects lk_X11_167 tT_343 rfl rfl (Nat.le_of_ble_eq_true rfl) (Nat.le_of_ble_eq_true rfl) (d' := d - 1) (by omega) dX11_readsCheck_115 (q247.1 c249) (fun v9 h251 q252 => ?_)
          obtain ⟨rfl, hS253, q252⟩ := q252
          refine wq_st (st' := []) rfl ?_
          refine wq_aload_n 0 rfl rfl dX11_readsCheck_118 ?_
          refine wq_iload_n 1 rfl rfl dX11_readsCheck_119 ?_
          refine wq_bipush (z := 11) (zlit rfl) rfl dX11_readsCheck_120 ?_
          refine wq_iload_n 3 rfl rfl dX11_readsCheck_122 ?_
          refine wN_V (As := [vI p1, vI 11, vI z207]) vm_X11_writes lk_X11_163 tT_343 rfl rfl (Nat.le_of_ble_eq_true rfl) (Nat.le_of_ble_eq_true rfl) (d' := d - 1) (by omega) dX11_readsCheck_123 q252 (fun v9 h255 q256 => ?_)
          obtain ⟨rfl, hS257, q256⟩ := q256
          refine wq_st (st' := []) rfl ?_
          refine wq_aload_n 0 rfl rfl dX11_readsCheck_126 ?_
          refine wq_iload_n 1 rfl rfl dX11_readsCheck_127 ?_
          refine wq_bipush (z := 12) (zlit rfl) rfl dX11_readsCheck_128 ?_
          refine wq_iload 4 rfl dX11_readsCheck_130 ?_
          refine wN_V (As := [vI p1, vI 12, vI z245]) vm_X11_writes lk_X11_163 tT_343 rfl rfl (Nat.le_of_ble_eq_true rfl) (Nat.le_of_ble_eq_true rfl) (d' := d - 1) (by omega) dX11_readsCheck_132 q256 (fun v9 h259 q260 => ?_)
          obtain ⟨rfl, hS261, q260⟩ := q260
          refine wq_st (st' := []) rfl ?_
          exact wp_vret rfl dX11_readsCheck_135 q260
        · refine wq_aload_n 0 rfl rfl dX11_readsCheck_104 ?_
          refine wq_aload_n 0 rfl rfl dX11_readsCheck_105 ?_
          refine wq_getI fk_X11_132 tT_343 (fun _ _ _ => rfl) dX11_readsCheck_106 ?_
          refine wN_V (As := [vI (gI h246 343 18)]) vm_X11_faults lk_X11_118 tT_343 rfl rfl (Nat.le_of_ble_eq_true rfl) (Nat.le_of_ble_eq_true rfl) (d' := d - 1) (by omega) dX11_readsCheck_109 (q247.2 c249) (fun v9 h263 q264 => ?_)
          obtain ⟨rfl, hS265, q264⟩ := q264
          refine wq_st (st' := []) rfl ?_
          refine wq_aload_n 0 rfl rfl dX11_readsCheck_112 ?_
          refine wq_bipush (z := 41) (zlit rfl) rfl dX11_readsCheck_113 ?_
          refine wN_V (As := [vI 41]) vm_X11_expects lk_X11_167 tT_343 rfl rfl (Nat.le_of_ble_eq_true rfl) (Nat.le_of_ble_eq_true rfl) (d' := d - 1) (by omega) dX11_readsCheck_115 q264 (fun v9 h267 q268 => ?_)
          obtain ⟨rfl, hS269, q268⟩ := q268
          refine wq_st (st' := []) rfl ?_
          refine wq_aload_n 0 rfl rfl dX11_readsCheck_118 ?_
          refine wq_iload_n 1 rfl rfl dX11_readsCheck_119 ?_
          refine wq_bipush (z := 11) (zlit rfl) rfl dX11_readsCheck_120 ?_
          refine wq_iload_n 3 rfl rfl dX11_readsCheck_122 ?_
          refine wN_V (As := [vI p1, vI 11, vI z207]) vm_X11_writes lk_X11_163 tT_343 rfl rfl (Nat.le_of_ble_eq_true rfl) (Nat.le_of_ble_eq_true rfl) (d' := d - 1) (by omega) dX11_readsCheck_123 q268 (fun v9 h271 q272 => ?_)
          obtain ⟨rfl, hS273, q272⟩ := q272
          refine wq_st (st' := []) rfl ?_
          refine wq_aload_n 0 rfl rfl dX11_readsCheck_126 ?_
          refine wq_iload_n 1 rfl rfl dX11_readsCheck_127 ?_
          refine wq_bipush (z := 12) (zlit rfl) rfl dX11_readsCheck_128 ?_
          refine wq_iload 4 rfl dX11_readsCheck_130 ?_
          refine wN_V (As := [vI p1, vI 12, vI z245]) vm_X11_writes lk_X11_163 tT_343 rfl rfl (Nat.le_of_ble_eq_true rfl) (Nat.le_of_ble_eq_true rfl) (d' := d - 1) (by omega) dX11_readsCheck_132 q272 (fun v9 h275 q276 => ?_)
          obtain ⟨rfl, hS277, q276⟩ := q276
          refine wq_st (st' := []) rfl ?_
          exact wp_vret rfl dX11_readsCheck_135 q276
theorem dX11_readsInteger_0 : decode cX11_readsInteger 0 = .ok (.aload_n 0, 1) := by decide +kernel
theorem dX11_readsInteger_1 : decode cX11_readsInteger 1 = .ok (.iload_n 1, 1) := by decide +kernel
theorem dX11_readsInteger_2 : decode cX11_readsInteger 2 = .ok (.iconst 0, 1) := by decide +kernel
theorem dX11_readsInteger_3 : decode cX11_readsInteger 3 = .ok (.iconst 0, 1) := by decide +kernel
theorem dX11_readsInteger_4 : decode cX11_readsInteger 4 = .ok (.invokevirtual 163, 3) := by decide +kernel
theorem dX11_readsInteger_7 : decode cX11_readsInteger 7 = .ok (.aload_n 0, 1) := by decide +kernel
theorem dX11_readsInteger_8 : decode cX11_readsInteger 8 = .ok (.iload_n 1, 1) := by decide +kernel
theorem dX11_readsInteger_9 : decode cX11_readsInteger 9 = .ok (.iconst 5, 1) := by decide +kernel
theorem dX11_readsInteger_10 : decode cX11_readsInteger 10 = .ok (.aload_n 0, 1) := by decide +kernel
theorem dX11_readsInteger_11 : decode cX11_readsInteger 11 = .ok (.invokevirtual 104, 3) := by decide +kernel
theorem dX11_readsInteger_14 : decode cX11_readsInteger 14 = .ok (.bipush 105, 2) := by decide +kernel
theorem dX11_readsInteger_16 : decode cX11_readsInteger 16 = .ok (.if_icmp .ne 7, 3) := by decide +kernel
theorem dX11_readsInteger_19 : decode cX11_readsInteger 19 = .ok (.iconst 1, 1) := by decide +kernel
theorem dX11_readsInteger_20 : decode cX11_readsInteger 20 = .ok (.goto 4, 3) := by decide +kernel
theorem dX11_readsInteger_23 : decode cX11_readsInteger 23 = .ok (.iconst 0, 1) := by decide +kernel
theorem dX11_readsInteger_24 : decode cX11_readsInteger 24 = .ok (.invokevirtual 163, 3) := by decide +kernel
theorem dX11_readsInteger_27 : decode cX11_readsInteger 27 = .ok (.aload_n 0, 1) := by decide +kernel
theorem dX11_readsInteger_28 : decode cX11_readsInteger 28 = .ok (.dup, 1) := by decide +kernel
theorem dX11_readsInteger_29 : decode cX11_readsInteger 29 = .ok (.getfield 101, 3) := by decide +kernel
theorem dX11_readsInteger_32 : decode cX11_readsInteger 32 = .ok (.iconst 1, 1) := by decide +kernel
theorem dX11_readsInteger_33 : decode cX11_readsInteger 33 = .ok (.iadd, 1) := by decide +kernel
theorem dX11_readsInteger_34 : decode cX11_readsInteger 34 = .ok (.putfield 101, 3) := by decide +kernel
theorem dX11_readsInteger_37 : decode cX11_readsInteger 37 = .ok (.aload_n 0, 1) := by decide +kernel
theorem dX11_readsInteger_38 : decode cX11_readsInteger 38 = .ok (.invokevirtual 111, 3) := by decide +kernel
theorem dX11_readsInteger_41 : decode cX11_readsInteger 41 = .ok (.aload_n 0, 1) := by decide +kernel
theorem dX11_readsInteger_42 : decode cX11_readsInteger 42 = .ok (.invokevirtual 104, 3) := by decide +kernel
theorem dX11_readsInteger_45 : decode cX11_readsInteger 45 = .ok (.bipush 48, 2) := by decide +kernel
theorem dX11_readsInteger_47 : decode cX11_readsInteger 47 = .ok (.isub, 1) := by decide +kernel
theorem dX11_readsInteger_48 : decode cX11_readsInteger 48 = .ok (.istore_n 2, 1) := by decide +kernel
theorem dX11_readsInteger_49 : decode cX11_readsInteger 49 = .ok (.iload_n 2, 1) := by decide +kernel
theorem dX11_readsInteger_50 : decode cX11_readsInteger 50 = .ok (.iconst 1, 1) := by decide +kernel
theorem dX11_readsInteger_51 : decode cX11_readsInteger 51 = .ok (.if_icmp .eq 13, 3) := by decide +kernel
theorem dX11_readsInteger_54 : decode cX11_readsInteger 54 = .ok (.iload_n 2, 1) := by decide +kernel
theorem dX11_readsInteger_55 : decode cX11_readsInteger 55 = .ok (.iconst 2, 1) := by decide +kernel
theorem dX11_readsInteger_56 : decode cX11_readsInteger 56 = .ok (.if_icmp .eq 8, 3) := by decide +kernel
theorem dX11_readsInteger_59 : decode cX11_readsInteger 59 = .ok (.iload_n 2, 1) := by decide +kernel
theorem dX11_readsInteger_60 : decode cX11_readsInteger 60 = .ok (.iconst 4, 1) := by decide +kernel
theorem dX11_readsInteger_61 : decode cX11_readsInteger 61 = .ok (.if_icmp .ne 20, 3) := by decide +kernel
theorem dX11_readsInteger_64 : decode cX11_readsInteger 64 = .ok (.aload_n 0, 1) := by decide +kernel
theorem dX11_readsInteger_65 : decode cX11_readsInteger 65 = .ok (.dup, 1) := by decide +kernel
theorem dX11_readsInteger_66 : decode cX11_readsInteger 66 = .ok (.getfield 101, 3) := by decide +kernel
theorem dX11_readsInteger_69 : decode cX11_readsInteger 69 = .ok (.iconst 1, 1) := by decide +kernel
theorem dX11_readsInteger_70 : decode cX11_readsInteger 70 = .ok (.iadd, 1) := by decide +kernel
theorem dX11_readsInteger_71 : decode cX11_readsInteger 71 = .ok (.putfield 101, 3) := by decide +kernel
theorem dX11_readsInteger_74 : decode cX11_readsInteger 74 = .ok (.aload_n 0, 1) := by decide +kernel
theorem dX11_readsInteger_75 : decode cX11_readsInteger 75 = .ok (.invokevirtual 111, 3) := by decide +kernel
theorem dX11_readsInteger_78 : decode cX11_readsInteger 78 = .ok (.goto 11, 3) := by decide +kernel
theorem dX11_readsInteger_81 : decode cX11_readsInteger 81 = .ok (.aload_n 0, 1) := by decide +kernel
theorem dX11_readsInteger_82 : decode cX11_readsInteger 82 = .ok (.aload_n 0, 1) := by decide +kernel
theorem dX11_readsInteger_83 : decode cX11_readsInteger 83 = .ok (.getfield 101, 3) := by decide +kernel
theorem dX11_readsInteger_86 : decode cX11_readsInteger 86 = .ok (.invokevirtual 118, 3) := by decide +kernel
theorem dX11_readsInteger_89 : decode cX11_readsInteger 89 = .ok (.aload_n 0, 1) := by decide +kernel
theorem dX11_readsInteger_90 : decode cX11_readsInteger 90 = .ok (.iload_n 1, 1) := by decide +kernel
theorem dX11_readsInteger_91 : decode cX11_readsInteger 91 = .ok (.iconst 4, 1) := by decide +kernel
theorem dX11_readsInteger_92 : decode cX11_readsInteger 92 = .ok (.iload_n 2, 1) := by decide +kernel
theorem dX11_readsInteger_93 : decode cX11_readsInteger 93 = .ok (.invokevirtual 163, 3) := by decide +kernel
theorem dX11_readsInteger_96 : decode cX11_readsInteger 96 = .ok (.aload_n 0, 1) := by decide +kernel
theorem dX11_readsInteger_97 : decode cX11_readsInteger 97 = .ok (.iload_n 1, 1) := by decide +kernel
theorem dX11_readsInteger_98 : decode cX11_readsInteger 98 = .ok (.bipush 6, 2) := by decide +kernel
theorem dX11_readsInteger_100 : decode cX11_readsInteger 100 = .ok (.aload_n 0, 1) := by decide +kernel
theorem dX11_readsInteger_101 : decode cX11_readsInteger 101 = .ok (.bipush 60, 2) := by decide +kernel
theorem dX11_readsInteger_103 : decode cX11_readsInteger 103 = .ok (.invokevirtual 114, 3) := by decide +kernel
theorem dX11_readsInteger_106 : decode cX11_readsInteger 106 = .ok (.ifCond .eq 7, 3) := by decide +kernel
theorem dX11_readsInteger_109 : decode cX11_readsInteger 109 = .ok (.iconst 1, 1) := by decide +kernel
theorem dX11_readsInteger_110 : decode cX11_readsInteger 110 = .ok (.goto 4, 3) := by decide +kernel
theorem dX11_readsInteger_113 : decode cX11_readsInteger 113 = .ok (.iconst 0, 1) := by decide +kernel
theorem dX11_readsInteger_114 : decode cX11_readsInteger 114 = .ok (.invokevirtual 163, 3) := by decide +kernel
theorem dX11_readsInteger_117 : decode cX11_readsInteger 117 = .ok (.aload_n 0, 1) := by decide +kernel
theorem dX11_readsInteger_118 : decode cX11_readsInteger 118 = .ok (.iload_n 1, 1) := by decide +kernel
theorem dX11_readsInteger_119 : decode cX11_readsInteger 119 = .ok (.invokevirtual 173, 3) := by decide +kernel
theorem dX11_readsInteger_122 : decode cX11_readsInteger 122 = .ok (.return_, 1) := by decide +kernel
theorem vc_X11_readsInteger_0 {G : zG} {d : Nat} {Q : Option zV → zHp → Prop} (p1 : Int) (h : zHp) (hS : zSh h) (hd : 6 ≤ d)  
    (hv : (wpN G (d - 1) M_X11_writes 0 (zar 0 [vR 343, vI p1, vI 0, vI 0]) [] h (qV (fun h2 => zSh h2 ∧ (wpN G (d - 1) M_X11_next 0 (zar 0 [vR 343]) [] h2 (qI (fun z5 h6 => zSh h6 ∧ ((z5 ≠ 105 → (wpN G (d - 1) M_X11_writes 0 (zar 0 [vR 343, vI p1, vI 5, vI 0]) [] h6 (qV (fun h11 => zSh h11 ∧ ((-2147483648 ≤ (gI h11 343 15) + 1 ∧ (gI h11 343 15) + 1 ≤ 2147483647) ∧ (∀ h14 : zHp, h14 = sI h11 343 15 ((gI h11 343 15) + 1) → (wpN G (d - 1) M_X11_blanks 0 (zar 0 [vR 343]) [] h14 (qV (fun h17 => zSh h17 ∧ (wpN G (d - 1) M_X11_next 0 (zar 0 [vR 343]) [] h17 (qI (fun z20 h21 => zSh h21 ∧ ((-2147483648 ≤ z20 - 48 ∧ z20 - 48 ≤ 2147483647) ∧ (∀ x24 : Int, x24 = (z20 - 48) → ((x24 = 1 → ((-2147483648 ≤ (gI h21 343 15) + 1 ∧ (gI h21 343 15) + 1 ≤ 2147483647) ∧ (∀ h27 : zHp, h27 = sI h21 343 15 ((gI h21 343 15) + 1) → (wpN G (d - 1) M_X11_blanks 0 (zar 0 [vR 343]) [] h27 (qV (fun h30 => zSh h30 ∧ (wpN G (d - 1) M_X11_writes 0 (zar 0 [vR 343, vI p1, vI 4, vI x24]) [] h30 (qV (fun h34 => zSh h34 ∧ (wpN G (d - 1) M_X11_takes 0 (zar 0 [vR 343, vI 60]) [] h34 (qI (fun z37 h38 => zSh h38 ∧ ((z37 = 0 → (wpN G (d - 1) M_X11_writes 0 (zar 0 [vR 343, vI p1, vI 6, vI 0]) [] h38 (qV (fun h43 => zSh h43 ∧ (wpN G (d - 1) M_X11_readsCount 0 (zar 0 [vR 343, vI p1]) [] h43 (qV (fun h47 => zSh h47 ∧ Q none h47))))))) ∧ (z37 ≠ 0 → (wpN G (d - 1) M_X11_writes 0 (zar 0 [vR 343, vI p1, vI 6, vI 1]) [] h38 (qV (fun h51 => zSh h51 ∧ (wpN G (d - 1) M_X11_readsCount 0 (zar 0 [vR 343, vI p1]) [] h51 (qV (fun h55 => zSh h55 ∧ Q none h55)))))))))))))))))))) ∧ (x24 ≠ 1 → ((x24 = 2 → ((-2147483648 ≤ (gI h21 343 15) + 1 ∧ (gI h21 343 15) + 1 ≤ 2147483647) ∧ (∀ h59 : zHp, h59 = sI h21 343 15 ((gI h21 343 15) + 1) → (wpN G (d - 1) M_X11_blanks 0 (zar 0 [vR 343]) [] h59 (qV (fun h62 => zSh h62 ∧ (wpN G (d - 1) M_X11_writes 0 (zar 0 [vR 343, vI p1, vI 4, vI x24]) [] h62 (qV (fun h66 => zSh h66 ∧ (wpN G (d - 1) M_X11_takes 0 (zar 0 [vR 343, vI 60]) [] h66 (qI (fun z69 h70 => zSh h70 ∧ ((z69 = 0 → (wpN G (d - 1) M_X11_writes 0 (zar 0 [vR 343, vI p1, vI 6, vI 0]) [] h70 (qV (fun h75 => zSh h75 ∧ (wpN G (d - 1) M_X11_readsCount 0 (zar 0 [vR 343, vI p1]) [] h75 (qV (fun h79 => zSh h79 ∧ Q none h79))))))) ∧ (z69 ≠ 0 → (wpN G (d - 1) M_X11_writes 0 (zar 0 [vR 343, vI p1, vI 6, vI 1]) [] h70 (qV (fun h83 => zSh h83 ∧ (wpN G (d - 1) M_X11_readsCount 0 (zar 0 [vR 343, vI p1]) [] h83 (qV (fun h87 => zSh h87 ∧ Q none h87)))))))))))))))))))) ∧ (x24 ≠ 2 → ((x24 ≠ 4 → (wpN G (d - 1) M_X11_faults 0 (zar 0 [vR 343, vI (gI h21 343 15)]) [] h21 (qV (fun h92 => zSh h92 ∧ (wpN G (d - 1) M_X11_writes 0 (zar 0 [vR 343, vI p1, vI 4, vI x24]) [] h92 (qV (fun h96 => zSh h96 ∧ (wpN G (d - 1) M_X11_takes 0 (zar 0 [vR 343, vI 60]) [] h96 (qI (fun z99 h100 => zSh h100 ∧ ((z99 = 0 → (wpN G (d - 1) M_X11_writes 0 (zar 0 [vR 343, vI p1, vI 6, vI 0]) [] h100 (qV (fun h105 => zSh h105 ∧ (wpN G (d - 1) M_X11_readsCount 0 (zar 0 [vR 343, vI p1]) [] h105 (qV (fun h109 => zSh h109 ∧ Q none h109))))))) ∧ (z99 ≠ 0 → (wpN G (d - 1) M_X11_writes 0 (zar 0 [vR 343, vI p1, vI 6, vI 1]) [] h100 (qV (fun h113 => zSh h113 ∧ (wpN G (d - 1) M_X11_readsCount 0 (zar 0 [vR 343, vI p1]) [] h113 (qV (fun h117 => zSh h117 ∧ Q none h117)))))))))))))))))) ∧ (x24 = 4 → ((-2147483648 ≤ (gI h21 343 15) + 1 ∧ (gI h21 343 15) + 1 ≤ 2147483647) ∧ (∀ h120 : zHp, h120 = sI h21 343 15 ((gI h21 343 15) + 1) → (wpN G (d - 1) M_X11_blanks 0 (zar 0 [vR 343]) [] h120 (qV (fun h123 => zSh h123 ∧ (wpN G (d - 1) M_X11_writes 0 (zar 0 [vR 343, vI p1, vI 4, vI x24]) [] h123 (qV (fun h127 => zSh h127 ∧ (wpN G (d - 1) M_X11_takes 0 (zar 0 [vR 343, vI 60]) [] h127 (qI (fun z130 h131 => zSh h131 ∧ ((z130 = 0 → (wpN G (d - 1) M_X11_writes 0 (zar 0 [vR 343, vI p1, vI 6, vI 0]) [] h131 (qV (fun h136 => zSh h136 ∧ (wpN G (d - 1) M_X11_readsCount 0 (zar 0 [vR 343, vI p1]) [] h136 (qV (fun h140 => zSh h140 ∧ Q none h140))))))) ∧ (z130 ≠ 0 → (wpN G (d - 1) M_X11_writes 0 (zar 0 [vR 343, vI p1, vI 6, vI 1]) [] h131 (qV (fun h144 => zSh h144 ∧ (wpN G (d - 1) M_X11_readsCount 0 (zar 0 [vR 343, vI p1]) [] h144 (qV (fun h148 => zSh h148 ∧ Q none h148))))))))))))))))))))))))))))))))))))))) ∧ (z5 = 105 → (wpN G (d - 1) M_X11_writes 0 (zar 0 [vR 343, vI p1, vI 5, vI 1]) [] h6 (qV (fun h152 => zSh h152 ∧ ((-2147483648 ≤ (gI h152 343 15) + 1 ∧ (gI h152 343 15) + 1 ≤ 2147483647) ∧ (∀ h155 : zHp, h155 = sI h152 343 15 ((gI h152 343 15) + 1) → (wpN G (d - 1) M_X11_blanks 0 (zar 0 [vR 343]) [] h155 (qV (fun h158 => zSh h158 ∧ (wpN G (d - 1) M_X11_next 0 (zar 0 [vR 343]) [] h158 (qI (fun z161 h162 => zSh h162 ∧ ((-2147483648 ≤ z161 - 48 ∧ z161 - 48 ≤ 2147483647) ∧ (∀ x165 : Int, x165 = (z161 - 48) → ((x165 = 1 → ((-2147483648 ≤ (gI h162 343 15) + 1 ∧ (gI h162 343 15) + 1 ≤ 2147483647) ∧ (∀ h168 : zHp, h168 = sI h162 343 15 ((gI h162 343 15) + 1) → (wpN G (d - 1) M_X11_blanks 0 (zar 0 [vR 343]) [] h168 (qV (fun h171 => zSh h171 ∧ (wpN G (d - 1) M_X11_writes 0 (zar 0 [vR 343, vI p1, vI 4, vI x165]) [] h171 (qV (fun h175 => zSh h175 ∧ (wpN G (d - 1) M_X11_takes 0 (zar 0 [vR 343, vI 60]) [] h175 (qI (fun z178 h179 => zSh h179 ∧ ((z178 = 0 → (wpN G (d - 1) M_X11_writes 0 (zar 0 [vR 343, vI p1, vI 6, vI 0]) [] h179 (qV (fun h184 => zSh h184 ∧ (wpN G (d - 1) M_X11_readsCount 0 (zar 0 [vR 343, vI p1]) [] h184 (qV (fun h188 => zSh h188 ∧ Q none h188))))))) ∧ (z178 ≠ 0 → (wpN G (d - 1) M_X11_writes 0 (zar 0 [vR 343, vI p1, vI 6, vI 1]) [] h179 (qV (fun h192 => zSh h192 ∧ (wpN G (d - 1) M_X11_readsCount 0 (zar 0 [vR 343, vI p1]) [] h192 (qV (fun h196 => zSh h196 ∧ Q none h196)))))))))))))))))))) ∧ (x165 ≠ 1 → ((x165 = 2 → ((-2147483648 ≤ (gI h162 343 15) + 1 ∧ (gI h162 343 15) + 1 ≤ 2147483647) ∧ (∀ h200 : zHp, h200 = sI h162 343 15 ((gI h162 343 15) + 1) → (wpN G (d - 1) M_X11_blanks 0 (zar 0 [vR 343]) [] h200 (qV (fun h203 => zSh h203 ∧ (wpN G (d - 1) M_X11_writes 0 (zar 0 [vR 343, vI p1, vI 4, vI x165]) [] h203 (qV (fun h207 => zSh h207 ∧ (wpN G (d - 1) M_X11_takes 0 (zar 0 [vR 343, vI 60]) [] h207 (qI (fun z210 h211 => zSh h211 ∧ ((z210 = 0 → (wpN G (d - 1) M_X11_writes 0 (zar 0 [vR 343, vI p1, vI 6, vI 0]) [] h211 (qV (fun h216 => zSh h216 ∧ (wpN G (d - 1) M_X11_readsCount 0 (zar 0 [vR 343, vI p1]) [] h216 (qV (fun h220 => zSh h220 ∧ Q none h220))))))) ∧ (z210 ≠ 0 → (wpN G (d - 1) M_X11_writes 0 (zar 0 [vR 343, vI p1, vI 6, vI 1]) [] h211 (qV (fun h224 => zSh h224 ∧ (wpN G (d - 1) M_X11_readsCount 0 (zar 0 [vR 343, vI p1]) [] h224 (qV (fun h228 => zSh h228 ∧ Q none h228)))))))))))))))))))) ∧ (x165 ≠ 2 → ((x165 ≠ 4 → (wpN G (d - 1) M_X11_faults 0 (zar 0 [vR 343, vI (gI h162 343 15)]) [] h162 (qV (fun h233 => zSh h233 ∧ (wpN G (d - 1) M_X11_writes 0 (zar 0 [vR 343, vI p1, vI 4, vI x165]) [] h233 (qV (fun h237 => zSh h237 ∧ (wpN G (d - 1) M_X11_takes 0 (zar 0 [vR 343, vI 60]) [] h237 (qI (fun z240 h241 => zSh h241 ∧ ((z240 = 0 → (wpN G (d - 1) M_X11_writes 0 (zar 0 [vR 343, vI p1, vI 6, vI 0]) [] h241 (qV (fun h246 => zSh h246 ∧ (wpN G (d - 1) M_X11_readsCount 0 (zar 0 [vR 343, vI p1]) [] h246 (qV (fun h250 => zSh h250 ∧ Q none h250))))))) ∧ (z240 ≠ 0 → (wpN G (d - 1) M_X11_writes 0 (zar 0 [vR 343, vI p1, vI 6, vI 1]) [] h241 (qV (fun h254 => zSh h254 ∧ (wpN G (d - 1) M_X11_readsCount 0 (zar 0 [vR 343, vI p1]) [] h254 (qV (fun h258 => zSh h258 ∧ Q none h258)))))))))))))))))) ∧ (x165 = 4 → ((-2147483648 ≤ (gI h162 343 15) + 1 ∧ (gI h162 343 15) + 1 ≤ 2147483647) ∧ (∀ h261 : zHp, h261 = sI h162 343 15 ((gI h162 343 15) + 1) → (wpN G (d - 1) M_X11_blanks 0 (zar 0 [vR 343]) [] h261 (qV (fun h264 => zSh h264 ∧ (wpN G (d - 1) M_X11_writes 0 (zar 0 [vR 343, vI p1, vI 4, vI x165]) [] h264 (qV (fun h268 => zSh h268 ∧ (wpN G (d - 1) M_X11_takes 0 (zar 0 [vR 343, vI 60]) [] h268 (qI (fun z271 h272 => zSh h272 ∧ ((z271 = 0 → (wpN G (d - 1) M_X11_writes 0 (zar 0 [vR 343, vI p1, vI 6, vI 0]) [] h272 (qV (fun h277 => zSh h277 ∧ (wpN G (d - 1) M_X11_readsCount 0 (zar 0 [vR 343, vI p1]) [] h277 (qV (fun h281 => zSh h281 ∧ Q none h281))))))) ∧ (z271 ≠ 0 → (wpN G (d - 1) M_X11_writes 0 (zar 0 [vR 343, vI p1, vI 6, vI 1]) [] h272 (qV (fun h285 => zSh h285 ∧ (wpN G (d - 1) M_X11_readsCount 0 (zar 0 [vR 343, vI p1]) [] h285 (qV (fun h289 => zSh h289 ∧ Q none h289))))))))))))))))))))))))))))))))))))))))))))))) : wpN G d M_X11_readsInteger 0 [(0, vR 343), (1, vI p1)] [] h Q := by
  refine wq_aload_n 0 rfl rfl dX11_readsInteger_0 ?_
  refine wq_iload_n 1 rfl rfl dX11_readsInteger_1 ?_
  refine wq_iconst (z := 0) (zlit rfl) dX11_readsInteger_2 ?_
  refine wq_iconst (z := 0) (zlit rfl) dX11_readsInteger_3 ?_
  refine wN_V (As := [vI p1, vI 0, vI 0]) vm_X11_writes lk_X11_163 tT_343 rfl rfl (Nat.le_of_ble_eq_true rfl) (Nat.le_of_ble_eq_true rfl) (d' := d - 1) (by omega) dX11_readsInteger_4 hv (fun v9 h2 q3 => ?_)
  obtain ⟨rfl, hS4, q3⟩ := q3
  refine wq_st (st' := []) rfl ?_
  refine wq_aload_n 0 rfl rfl dX11_readsInteger_7 ?_
  refine wq_iload_n 1 rfl rfl dX11_readsInteger_8 ?_
  refine wq_iconst (z := 5) (zlit rfl) dX11_readsInteger_9 ?_
  refine wq_aload_n 0 rfl rfl dX11_readsInteger_10 ?_
  refine wN_V (As := []) vm_X11_next lk_X11_104 tT_343 rfl rfl (Nat.le_of_ble_eq_true rfl) (Nat.le_of_ble_eq_true rfl) (d' := d - 1) (by omega) dX11_readsInteger_11 q3 (fun v9 h6 q7 => ?_)
  obtain ⟨z5, rfl, hS8, q7⟩ := q7
  refine wq_st (st' := [vI z5, vI 5, vI p1, vR 343]) rfl ?_
  refine wq_bipush (z := 105) (zlit rfl) rfl dX11_readsInteger_14 ?_
  refine wq_icmp_ne 23 rfl dX11_readsInteger_16 (fun c9 => ?_) (fun c9 => ?_)
  · refine wq_iconst (z := 0) (zlit rfl) dX11_readsInteger_23 ?_
    refine wN_V (As := [vI p1, vI 5, vI 0]) vm_X11_writes lk_X11_163 tT_343 rfl rfl (Nat.le_of_ble_eq_true rfl) (Nat.le_of_ble_eq_true rfl) (d' := d - 1) (by omega) dX11_readsInteger_24 (q7.1 c9) (fun v9 h11 q12 => ?_)
    obtain ⟨rfl, hS13, q12⟩ := q12
    refine wq_st (st' := []) rfl ?_
    refine wq_aload_n 0 rfl rfl dX11_readsInteger_27 ?_
    refine wq_dup rfl dX11_readsInteger_28 ?_
    refine wq_getI fk_X11_101 tT_343 (fun _ _ _ => rfl) dX11_readsInteger_29 ?_
    refine wq_iconst (z := 1) (zlit rfl) dX11_readsInteger_32 ?_
    refine wq_iadd q12.1 dX11_readsInteger_33 ?_
    refine wq_putI fk_X11_101 tT_343 rfl rfl dX11_readsInteger_34 ?_
    refine wq_toph (fun h14 e15 => ?_)
    have sh14 : zSh h14 := zSh_of e15 hS13
    refine wq_aload_n 0 rfl rfl dX11_readsInteger_37 ?_
    refine wN_V (As := []) vm_X11_blanks lk_X11_111 tT_343 rfl rfl (Nat.le_of_ble_eq_true rfl) (Nat.le_of_ble_eq_true rfl) (d' := d - 1) (by omega) dX11_readsInteger_38 (q12.2 h14 e15) (fun v9 h17 q18 => ?_)
    obtain ⟨rfl, hS19, q18⟩ := q18
    refine wq_st (st' := []) rfl ?_
    refine wq_aload_n 0 rfl rfl dX11_readsInteger_41 ?_
    refine wN_V (As := []) vm_X11_next lk_X11_104 tT_343 rfl rfl (Nat.le_of_ble_eq_true rfl) (Nat.le_of_ble_eq_true rfl) (d' := d - 1) (by omega) dX11_readsInteger_42 q18 (fun v9 h21 q22 => ?_)
    obtain ⟨z20, rfl, hS23, q22⟩ := q22
    refine wq_st (st' := [vI z20]) rfl ?_
    refine wq_bipush (z := 48) (zlit rfl) rfl dX11_readsInteger_45 ?_
    refine wq_isub q22.1 dX11_readsInteger_47 ?_
    refine wq_topI (fun x24 e25 => ?_)
    refine wq_istore_n (ls' := [(0, vR 343), (1, vI p1), (2, vI x24)]) rfl (by decide) rfl dX11_readsInteger_48 ?_
    refine wq_iload_n 2 rfl rfl dX11_readsInteger_49 ?_
    refine wq_iconst (z := 1) (zlit rfl) dX11_readsInteger_50 ?_
    refine wq_icmp_eq 64 rfl dX11_readsInteger_51 (fun c26 => ?_) (fun c26 => ?_)
    · refine wq_aload_n 0 rfl rfl dX11_readsInteger_64 ?_
      refine wq_dup rfl dX11_readsInteger_65 ?_
      refine wq_getI fk_X11_101 tT_343 (fun _ _ _ => rfl) dX11_readsInteger_66 ?_
      refine wq_iconst (z := 1) (zlit rfl) dX11_readsInteger_69 ?_
      refine wq_iadd ((q22.2 x24 e25).1 c26).1 dX11_readsInteger_70 ?_
      refine wq_putI fk_X11_101 tT_343 rfl rfl dX11_readsInteger_71 ?_
      refine wq_toph (fun h27 e28 => ?_)
      have sh27 : zSh h27 := zSh_of e28 hS23
      refine wq_aload_n 0 rfl rfl dX11_readsInteger_74 ?_
      refine wN_V (As := []) vm_X11_blanks lk_X11_111 tT_343 rfl rfl (Nat.le_of_ble_eq_true rfl) (Nat.le_of_ble_eq_true rfl) (d' := d - 1) (by omega) dX11_readsInteger_75 (((q22.2 x24 e25).1 c26).2 h27 e28) (fun v9 h30 q31 => ?_)
      obtain ⟨rfl, hS32, q31⟩ := q31
      refine wq_st (st' := []) rfl ?_
      refine wq_goto 89 rfl dX11_readsInteger_78 ?_
      refine wq_aload_n 0 rfl rfl dX11_readsInteger_89 ?_
      refine wq_iload_n 1 rfl rfl dX11_readsInteger_90 ?_
      refine wq_iconst (z := 4) (zlit rfl) dX11_readsInteger_91 ?_
      refine wq_iload_n 2 rfl rfl dX11_readsInteger_92 ?_
      refine wN_V (As := [vI p1, vI 4, vI x24]) vm_X11_writes lk_X11_163 tT_343 rfl rfl (Nat.le_of_ble_eq_true rfl) (Nat.le_of_ble_eq_true rfl) (d' := d - 1) (by omega) dX11_readsInteger_93 q31 (fun v9 h34 q35 => ?_)
      obtain ⟨rfl, hS36, q35⟩ := q35
      refine wq_st (st' := []) rfl ?_
      refine wq_aload_n 0 rfl rfl dX11_readsInteger_96 ?_
      refine wq_iload_n 1 rfl rfl dX11_readsInteger_97 ?_
      refine wq_bipush (z := 6) (zlit rfl) rfl dX11_readsInteger_98 ?_
      refine wq_aload_n 0 rfl rfl dX11_readsInteger_100 ?_
      refine wq_bipush (z := 60) (zlit rfl) rfl dX11_readsInteger_101 ?_
      refine wN_V (As := [vI 60]) vm_X11_takes lk_X11_114 tT_343 rfl rfl (Nat.le_of_ble_eq_true rfl) (Nat.le_of_ble_eq_true rfl) (d' := d - 1) (by omega) dX11_readsInteger_103 q35 (fun v9 h38 q39 => ?_)
      obtain ⟨z37, rfl, hS40, q39⟩ := q39
      refine wq_st (st' := [vI z37, vI 6, vI p1, vR 343]) rfl ?_
      refine wq_if_eq 113 rfl dX11_readsInteger_106 (fun c41 => ?_) (fun c41 => ?_)
      · refine wq_iconst (z := 0) (zlit rfl) dX11_readsInteger_113 ?_
        refine wN_V (As := [vI p1, vI 6, vI 0]) vm_X11_writes lk_X11_163 tT_343 rfl rfl (Nat.le_of_ble_eq_true rfl) (Nat.le_of_ble_eq_true rfl) (d' := d - 1) (by omega) dX11_readsInteger_114 (q39.1 c41) (fun v9 h43 q44 => ?_)
        obtain ⟨rfl, hS45, q44⟩ := q44
        refine wq_st (st' := []) rfl ?_
        refine wq_aload_n 0 rfl rfl dX11_readsInteger_117 ?_
        refine wq_iload_n 1 rfl rfl dX11_readsInteger_118 ?_
        refine wN_V (As := [vI p1]) vm_X11_readsCount lk_X11_173 tT_343 rfl rfl (Nat.le_of_ble_eq_true rfl) (Nat.le_of_ble_eq_true rfl) (d' := d - 1) (by omega) dX11_readsInteger_119 q44 (fun v9 h47 q48 => ?_)
        obtain ⟨rfl, hS49, q48⟩ := q48
        refine wq_st (st' := []) rfl ?_
        exact wp_vret rfl dX11_readsInteger_122 q48
      · refine wq_iconst (z := 1) (zlit rfl) dX11_readsInteger_109 ?_
        refine wq_goto 114 rfl dX11_readsInteger_110 ?_
        refine wN_V (As := [vI p1, vI 6, vI 1]) vm_X11_writes lk_X11_163 tT_343 rfl rfl (Nat.le_of_ble_eq_true rfl) (Nat.le_of_ble_eq_true rfl) (d' := d - 1) (by omega) dX11_readsInteger_114 (q39.2 c41) (fun v9 h51 q52 => ?_)
        obtain ⟨rfl, hS53, q52⟩ := q52
        refine wq_st (st' := []) rfl ?_
        refine wq_aload_n 0 rfl rfl dX11_readsInteger_117 ?_
        refine wq_iload_n 1 rfl rfl dX11_readsInteger_118 ?_
        refine wN_V (As := [vI p1]) vm_X11_readsCount lk_X11_173 tT_343 rfl rfl (Nat.le_of_ble_eq_true rfl) (Nat.le_of_ble_eq_true rfl) (d' := d - 1) (by omega) dX11_readsInteger_119 q52 (fun v9 h55 q56 => ?_)
        obtain ⟨rfl, hS57, q56⟩ := q56
        refine wq_st (st' := []) rfl ?_
        exact wp_vret rfl dX11_readsInteger_122 q56
    · refine wq_iload_n 2 rfl rfl dX11_readsInteger_54 ?_
      refine wq_iconst (z := 2) (zlit rfl) dX11_readsInteger_55 ?_
      refine wq_icmp_eq 64 rfl dX11_readsInteger_56 (fun c58 => ?_) (fun c58 => ?_)
      · refine wq_aload_n 0 rfl rfl dX11_readsInteger_64 ?_
        refine wq_dup rfl dX11_readsInteger_65 ?_
        refine wq_getI fk_X11_101 tT_343 (fun _ _ _ => rfl) dX11_readsInteger_66 ?_
        refine wq_iconst (z := 1) (zlit rfl) dX11_readsInteger_69 ?_
        refine wq_iadd (((q22.2 x24 e25).2 c26).1 c58).1 dX11_readsInteger_70 ?_
        refine wq_putI fk_X11_101 tT_343 rfl rfl dX11_readsInteger_71 ?_
        refine wq_toph (fun h59 e60 => ?_)
        have sh59 : zSh h59 := zSh_of e60 hS23
        refine wq_aload_n 0 rfl rfl dX11_readsInteger_74 ?_
        refine wN_V (As := []) vm_X11_blanks lk_X11_111 tT_343 rfl rfl (Nat.le_of_ble_eq_true rfl) (Nat.le_of_ble_eq_true rfl) (d' := d - 1) (by omega) dX11_readsInteger_75 ((((q22.2 x24 e25).2 c26).1 c58).2 h59 e60) (fun v9 h62 q63 => ?_)
        obtain ⟨rfl, hS64, q63⟩ := q63
        refine wq_st (st' := []) rfl ?_
        refine wq_goto 89 rfl dX11_readsInteger_78 ?_
        refine wq_aload_n 0 rfl rfl dX11_readsInteger_89 ?_
        refine wq_iload_n 1 rfl rfl dX11_readsInteger_90 ?_
        refine wq_iconst (z := 4) (zlit rfl) dX11_readsInteger_91 ?_
        refine wq_iload_n 2 rfl rfl dX11_readsInteger_92 ?_
        refine wN_V (As := [vI p1, vI 4, vI x24]) vm_X11_writes lk_X11_163 tT_343 rfl rfl (Nat.le_of_ble_eq_true rfl) (Nat.le_of_ble_eq_true rfl) (d' := d - 1) (by omega) dX11_readsInteger_93 q63 (fun v9 h66 q67 => ?_)
        obtain ⟨rfl, hS68, q67⟩ := q67
        refine wq_st (st' := []) rfl ?_
        refine wq_aload_n 0 rfl rfl dX11_readsInteger_96 ?_
        refine wq_iload_n 1 rfl rfl dX11_readsInteger_97 ?_
        refine wq_bipush (z := 6) (zlit rfl) rfl dX11_readsInteger_98 ?_
        refine wq_aload_n 0 rfl rfl dX11_readsInteger_100 ?_
        refine wq_bipush (z := 60) (zlit rfl) rfl dX11_readsInteger_101 ?_
        refine wN_V (As := [vI 60]) vm_X11_takes lk_X11_114 tT_343 rfl rfl (Nat.le_of_ble_eq_true rfl) (Nat.le_of_ble_eq_true rfl) (d' := d - 1) (by omega) dX11_readsInteger_103 q67 (fun v9 h70 q71 => ?_)
        obtain ⟨z69, rfl, hS72, q71⟩ := q71
        refine wq_st (st' := [vI z69, vI 6, vI p1, vR 343]) rfl ?_
        refine wq_if_eq 113 rfl dX11_readsInteger_106 (fun c73 => ?_) (fun c73 => ?_)
        · refine wq_iconst (z := 0) (zlit rfl) dX11_readsInteger_113 ?_
          refine wN_V (As := [vI p1, vI 6, vI 0]) vm_X11_writes lk_X11_163 tT_343 rfl rfl (Nat.le_of_ble_eq_true rfl) (Nat.le_of_ble_eq_true rfl) (d' := d - 1) (by omega) dX11_readsInteger_114 (q71.1 c73) (fun v9 h75 q76 => ?_)
          obtain ⟨rfl, hS77, q76⟩ := q76
          refine wq_st (st' := []) rfl ?_
          refine wq_aload_n 0 rfl rfl dX11_readsInteger_117 ?_
          refine wq_iload_n 1 rfl rfl dX11_readsInteger_118 ?_
          refine wN_V (As := [vI p1]) vm_X11_readsCount lk_X11_173 tT_343 rfl rfl (Nat.le_of_ble_eq_true rfl) (Nat.le_of_ble_eq_true rfl) (d' := d - 1) (by omega) dX11_readsInteger_119 q76 (fun v9 h79 q80 => ?_)
          obtain ⟨rfl, hS81, q80⟩ := q80
          refine wq_st (st' := []) rfl ?_
          exact wp_vret rfl dX11_readsInteger_122 q80
        · refine wq_iconst (z := 1) (zlit rfl) dX11_readsInteger_109 ?_
          refine wq_goto 114 rfl dX11_readsInteger_110 ?_
          refine wN_V (As := [vI p1, vI 6, vI 1]) vm_X11_writes lk_X11_163 tT_343 rfl rfl (Nat.le_of_ble_eq_true rfl) (Nat.le_of_ble_eq_true rfl) (d' := d - 1) (by omega) dX11_readsInteger_114 (q71.2 c73) (fun v9 h83 q84 => ?_)
          obtain ⟨rfl, hS85, q84⟩ := q84
          refine wq_st (st' := []) rfl ?_
          refine wq_aload_n 0 rfl rfl dX11_readsInteger_117 ?_
          refine wq_iload_n 1 rfl rfl dX11_readsInteger_118 ?_
          refine wN_V (As := [vI p1]) vm_X11_readsCount lk_X11_173 tT_343 rfl rfl (Nat.le_of_ble_eq_true rfl) (Nat.le_of_ble_eq_true rfl) (d' := d - 1) (by omega) dX11_readsInteger_119 q84 (fun v9 h87 q88 => ?_)
          obtain ⟨rfl, hS89, q88⟩ := q88
          refine wq_st (st' := []) rfl ?_
          exact wp_vret rfl dX11_readsInteger_122 q88
      · refine wq_iload_n 2 rfl rfl dX11_readsInteger_59 ?_
        refine wq_iconst (z := 4) (zlit rfl) dX11_readsInteger_60 ?_
        refine wq_icmp_ne 81 rfl dX11_readsInteger_61 (fun c90 => ?_) (fun c90 => ?_)
        · refine wq_aload_n 0 rfl rfl dX11_readsInteger_81 ?_
          refine wq_aload_n 0 rfl rfl dX11_readsInteger_82 ?_
          refine wq_getI fk_X11_101 tT_343 (fun _ _ _ => rfl) dX11_readsInteger_83 ?_
          refine wN_V (As := [vI (gI h21 343 15)]) vm_X11_faults lk_X11_118 tT_343 rfl rfl (Nat.le_of_ble_eq_true rfl) (Nat.le_of_ble_eq_true rfl) (d' := d - 1) (by omega) dX11_readsInteger_86 ((((q22.2 x24 e25).2 c26).2 c58).1 c90) (fun v9 h92 q93 => ?_)
          obtain ⟨rfl, hS94, q93⟩ := q93
          refine wq_st (st' := []) rfl ?_
          refine wq_aload_n 0 rfl rfl dX11_readsInteger_89 ?_
          refine wq_iload_n 1 rfl rfl dX11_readsInteger_90 ?_
          refine wq_iconst (z := 4) (zlit rfl) dX11_readsInteger_91 ?_
          refine wq_iload_n 2 rfl rfl dX11_readsInteger_92 ?_
          refine wN_V (As := [vI p1, vI 4, vI x24]) vm_X11_writes lk_X11_163 tT_343 rfl rfl (Nat.le_of_ble_eq_true rfl) (Nat.le_of_ble_eq_true rfl) (d' := d - 1) (by omega) dX11_readsInteger_93 q93 (fun v9 h96 q97 => ?_)
          obtain ⟨rfl, hS98, q97⟩ := q97
          refine wq_st (st' := []) rfl ?_
          refine wq_aload_n 0 rfl rfl dX11_readsInteger_96 ?_
          refine wq_iload_n 1 rfl rfl dX11_readsInteger_97 ?_
          refine wq_bipush (z := 6) (zlit rfl) rfl dX11_readsInteger_98 ?_
          refine wq_aload_n 0 rfl rfl dX11_readsInteger_100 ?_
          refine wq_bipush (z := 60) (zlit rfl) rfl dX11_readsInteger_101 ?_
          refine wN_V (As := [vI 60]) vm_X11_takes lk_X11_114 tT_343 rfl rfl (Nat.le_of_ble_eq_true rfl) (Nat.le_of_ble_eq_true rfl) (d' := d - 1) (by omega) dX11_readsInteger_103 q97 (fun v9 h100 q101 => ?_)
          obtain ⟨z99, rfl, hS102, q101⟩ := q101
          refine wq_st (st' := [vI z99, vI 6, vI p1, vR 343]) rfl ?_
          refine wq_if_eq 113 rfl dX11_readsInteger_106 (fun c103 => ?_) (fun c103 => ?_)
          · refine wq_iconst (z := 0) (zlit rfl) dX11_readsInteger_113 ?_
            refine wN_V (As := [vI p1, vI 6, vI 0]) vm_X11_writes lk_X11_163 tT_343 rfl rfl (Nat.le_of_ble_eq_true rfl) (Nat.le_of_ble_eq_true rfl) (d' := d - 1) (by omega) dX11_readsInteger_114 (q101.1 c103) (fun v9 h105 q106 => ?_)
            obtain ⟨rfl, hS107, q106⟩ := q106
            refine wq_st (st' := []) rfl ?_
            refine wq_aload_n 0 rfl rfl dX11_readsInteger_117 ?_
            refine wq_iload_n 1 rfl rfl dX11_readsInteger_118 ?_
            refine wN_V (As := [vI p1]) vm_X11_readsCount lk_X11_173 tT_343 rfl rfl (Nat.le_of_ble_eq_true rfl) (Nat.le_of_ble_eq_true rfl) (d' := d - 1) (by omega) dX11_readsInteger_119 q106 (fun v9 h109 q110 => ?_)
            obtain ⟨rfl, hS111, q110⟩ := q110
            refine wq_st (st' := []) rfl ?_
            exact wp_vret rfl dX11_readsInteger_122 q110
          · refine wq_iconst (z := 1) (zlit rfl) dX11_readsInteger_109 ?_
            refine wq_goto 114 rfl dX11_readsInteger_110 ?_
            refine wN_V (As := [vI p1, vI 6, vI 1]) vm_X11_writes lk_X11_163 tT_343 rfl rfl (Nat.le_of_ble_eq_true rfl) (Nat.le_of_ble_eq_true rfl) (d' := d - 1) (by omega) dX11_readsInteger_114 (q101.2 c103) (fun v9 h113 q114 => ?_)
            obtain ⟨rfl, hS115, q114⟩ := q114
            refine wq_st (st' := []) rfl ?_
            refine wq_aload_n 0 rfl rfl dX11_readsInteger_117 ?_
            refine wq_iload_n 1 rfl rfl dX11_readsInteger_118 ?_
            refine wN_V (As := [vI p1]) vm_X11_readsCount lk_X11_173 tT_343 rfl rfl (Nat.le_of_ble_eq_true rfl) (Nat.le_of_ble_eq_true rfl) (d' := d - 1) (by omega) dX11_readsInteger_119 q114 (fun v9 h117 q118 => ?_)
            obtain ⟨rfl, hS119, q118⟩ := q118
            refine wq_st (st' := []) rfl ?_
            exact wp_vret rfl dX11_readsInteger_122 q118
        · refine wq_aload_n 0 rfl rfl dX11_readsInteger_64 ?_
          refine wq_dup rfl dX11_readsInteger_65 ?_
          refine wq_getI fk_X11_101 tT_343 (fun _ _ _ => rfl) dX11_readsInteger_66 ?_
          refine wq_iconst (z := 1) (zlit rfl) dX11_readsInteger_69 ?_
          refine wq_iadd ((((q22.2 x24 e25).2 c26).2 c58).2 c90).1 dX11_readsInteger_70 ?_
          refine wq_putI fk_X11_101 tT_343 rfl rfl dX11_readsInteger_71 ?_
          refine wq_toph (fun h120 e121 => ?_)
          have sh120 : zSh h120 := zSh_of e121 hS23
          refine wq_aload_n 0 rfl rfl dX11_readsInteger_74 ?_
          refine wN_V (As := []) vm_X11_blanks lk_X11_111 tT_343 rfl rfl (Nat.le_of_ble_eq_true rfl) (Nat.le_of_ble_eq_true rfl) (d' := d - 1) (by omega) dX11_readsInteger_75 (((((q22.2 x24 e25).2 c26).2 c58).2 c90).2 h120 e121) (fun v9 h123 q124 => ?_)
          obtain ⟨rfl, hS125, q124⟩ := q124
          refine wq_st (st' := []) rfl ?_
          refine wq_goto 89 rfl dX11_readsInteger_78 ?_
          refine wq_aload_n 0 rfl rfl dX11_readsInteger_89 ?_
          refine wq_iload_n 1 rfl rfl dX11_readsInteger_90 ?_
          refine wq_iconst (z := 4) (zlit rfl) dX11_readsInteger_91 ?_
          refine wq_iload_n 2 rfl rfl dX11_readsInteger_92 ?_
          refine wN_V (As := [vI p1, vI 4, vI x24]) vm_X11_writes lk_X11_163 tT_343 rfl rfl (Nat.le_of_ble_eq_true rfl) (Nat.le_of_ble_eq_true rfl) (d' := d - 1) (by omega) dX11_readsInteger_93 q124 (fun v9 h127 q128 => ?_)
          obtain ⟨rfl, hS129, q128⟩ := q128
          refine wq_st (st' := []) rfl ?_
          refine wq_aload_n 0 rfl rfl dX11_readsInteger_96 ?_
          refine wq_iload_n 1 rfl rfl dX11_readsInteger_97 ?_
          refine wq_bipush (z := 6) (zlit rfl) rfl dX11_readsInteger_98 ?_
          refine wq_aload_n 0 rfl rfl dX11_readsInteger_100 ?_
          refine wq_bipush (z := 60) (zlit rfl) rfl dX11_readsInteger_101 ?_
          refine wN_V (As := [vI 60]) vm_X11_takes lk_X11_114 tT_343 rfl rfl (Nat.le_of_ble_eq_true rfl) (Nat.le_of_ble_eq_true rfl) (d' := d - 1) (by omega) dX11_readsInteger_103 q128 (fun v9 h131 q132 => ?_)
          obtain ⟨z130, rfl, hS133, q132⟩ := q132
          refine wq_st (st' := [vI z130, vI 6, vI p1, vR 343]) rfl ?_
          refine wq_if_eq 113 rfl dX11_readsInteger_106 (fun c134 => ?_) (fun c134 => ?_)
          · refine wq_iconst (z := 0) (zlit rfl) dX11_readsInteger_113 ?_
            refine wN_V (As := [vI p1, vI 6, vI 0]) vm_X11_writes lk_X11_163 tT_343 rfl rfl (Nat.le_of_ble_eq_true rfl) (Nat.le_of_ble_eq_true rfl) (d' := d - 1) (by omega) dX11_readsInteger_114 (q132.1 c134) (fun v9 h136 q137 => ?_)
            obtain ⟨rfl, hS138, q137⟩ := q137
            refine wq_st (st' := []) rfl ?_
            refine wq_aload_n 0 rfl rfl dX11_readsInteger_117 ?_
            refine wq_iload_n 1 rfl rfl dX11_readsInteger_118 ?_
            refine wN_V (As := [vI p1]) vm_X11_readsCount lk_X11_173 tT_343 rfl rfl (Nat.le_of_ble_eq_true rfl) (Nat.le_of_ble_eq_true rfl) (d' := d - 1) (by omega) dX11_readsInteger_119 q137 (fun v9 h140 q141 => ?_)
            obtain ⟨rfl, hS142, q141⟩ := q141
            refine wq_st (st' := []) rfl ?_
            exact wp_vret rfl dX11_readsInteger_122 q141
          · refine wq_iconst (z := 1) (zlit rfl) dX11_readsInteger_109 ?_
            refine wq_goto 114 rfl dX11_readsInteger_110 ?_
            refine wN_V (As := [vI p1, vI 6, vI 1]) vm_X11_writes lk_X11_163 tT_343 rfl rfl (Nat.le_of_ble_eq_true rfl) (Nat.le_of_ble_eq_true rfl) (d' := d - 1) (by omega) dX11_readsInteger_114 (q132.2 c134) (fun v9 h144 q145 => ?_)
            obtain ⟨rfl, hS146, q145⟩ := q145
            refine wq_st (st' := []) rfl ?_
            refine wq_aload_n 0 rfl rfl dX11_readsInteger_117 ?_
            refine wq_iload_n 1 rfl rfl dX11_readsInteger_118 ?_
            refine wN_V (As := [vI p1]) vm_X11_readsCount lk_X11_173 tT_343 rfl rfl (Nat.le_of_ble_eq_true rfl) (Nat.le_of_ble_eq_true rfl) (d' := d - 1) (by omega) dX11_readsInteger_119 q145 (fun v9 h148 q149 => ?_)
            obtain ⟨rfl, hS150, q149⟩ := q149
            refine wq_st (st' := []) rfl ?_
            exact wp_vret rfl dX11_readsInteger_122 q149
  · refine wq_iconst (z := 1) (zlit rfl) dX11_readsInteger_19 ?_
    refine wq_goto 24 rfl dX11_readsInteger_20 ?_
    refine wN_V (As := [vI p1, vI 5, vI 1]) vm_X11_writes lk_X11_163 tT_343 rfl rfl (Nat.le_of_ble_eq_true rfl) (Nat.le_of_ble_eq_true rfl) (d' := d - 1) (by omega) dX11_readsInteger_24 (q7.2 c9) (fun v9 h152 q153 => ?_)
    obtain ⟨rfl, hS154, q153⟩ := q153
    refine wq_st (st' := []) rfl ?_
    refine wq_aload_n 0 rfl rfl dX11_readsInteger_27 ?_
    refine wq_dup rfl dX11_readsInteger_28 ?_
    refine wq_getI fk_X11_101 tT_343 (fun _ _ _ => rfl) dX11_readsInteger_29 ?_
    refine wq_iconst (z := 1) (zlit rfl) dX11_readsInteger_32 ?_
    refine wq_iadd q153.1 dX11_readsInteger_33 ?_
    refine wq_putI fk_X11_101 tT_343 rfl rfl dX11_readsInteger_34 ?_
    refine wq_toph (fun h155 e156 => ?_)
    have sh155 : zSh h155 := zSh_of e156 hS154
    refine wq_aload_n 0 rfl rfl dX11_readsInteger_37 ?_
    refine wN_V (As := []) vm_X11_blanks lk_X11_111 tT_343 rfl rfl (Nat.le_of_ble_eq_true rfl) (Nat.le_of_ble_eq_true rfl) (d' := d - 1) (by omega) dX11_readsInteger_38 (q153.2 h155 e156) (fun v9 h158 q159 => ?_)
    obtain ⟨rfl, hS160, q159⟩ := q159
    refine wq_st (st' := []) rfl ?_
    refine wq_aload_n 0 rfl rfl dX11_readsInteger_41 ?_
    refine wN_V (As := []) vm_X11_next lk_X11_104 tT_343 rfl rfl (Nat.le_of_ble_eq_true rfl) (Nat.le_of_ble_eq_true rfl) (d' := d - 1) (by omega) dX11_readsInteger_42 q159 (fun v9 h162 q163 => ?_)
    obtain ⟨z161, rfl, hS164, q163⟩ := q163
    refine wq_st (st' := [vI z161]) rfl ?_
    refine wq_bipush (z := 48) (zlit rfl) rfl dX11_readsInteger_45 ?_
    refine wq_isub q163.1 dX11_readsInteger_47 ?_
    refine wq_topI (fun x165 e166 => ?_)
    refine wq_istore_n (ls' := [(0, vR 343), (1, vI p1), (2, vI x165)]) rfl (by decide) rfl dX11_readsInteger_48 ?_
    refine wq_iload_n 2 rfl rfl dX11_readsInteger_49 ?_
    refine wq_iconst (z := 1) (zlit rfl) dX11_readsInteger_50 ?_
    refine wq_icmp_eq 64 rfl dX11_readsInteger_51 (fun c167 => ?_) (fun c167 => ?_)
    · refine wq_aload_n 0 rfl rfl dX11_readsInteger_64 ?_
      refine wq_dup rfl dX11_readsInteger_65 ?_
      refine wq_getI fk_X11_101 tT_343 (fun _ _ _ => rfl) dX11_readsInteger_66 ?_
      refine wq_iconst (z := 1) (zlit rfl) dX11_readsInteger_69 ?_
      refine wq_iadd ((q163.2 x165 e166).1 c167).1 dX11_readsInteger_70 ?_
      refine wq_putI fk_X11_101 tT_343 rfl rfl dX11_readsInteger_71 ?_
      refine wq_toph (fun h168 e169 => ?_)
      have sh168 : zSh h168 := zSh_of e169 hS164
      refine wq_aload_n 0 rfl rfl dX11_readsInteger_74 ?_
      refine wN_V (As := []) vm_X11_blanks lk_X11_111 tT_343 rfl rfl (Nat.le_of_ble_eq_true rfl) (Nat.le_of_ble_eq_true rfl) (d' := d - 1) (by omega) dX11_readsInteger_75 (((q163.2 x165 e166).1 c167).2 h168 e169) (fun v9 h171 q172 => ?_)
      obtain ⟨rfl, hS173, q172⟩ := q172
      refine wq_st (st' := []) rfl ?_
      refine wq_goto 89 rfl dX11_readsInteger_78 ?_
      refine wq_aload_n 0 rfl rfl dX11_readsInteger_89 ?_
      refine wq_iload_n 1 rfl rfl dX11_readsInteger_90 ?_
      refine wq_iconst (z := 4) (zlit rfl) dX11_readsInteger_91 ?_
      refine wq_iload_n 2 rfl rfl dX11_readsInteger_92 ?_
      refine wN_V (As := [vI p1, vI 4, vI x165]) vm_X11_writes lk_X11_163 tT_343 rfl rfl (Nat.le_of_ble_eq_true rfl) (Nat.le_of_ble_eq_true rfl) (d' := d - 1) (by omega) dX11_readsInteger_93 q172 (fun v9 h175 q176 => ?_)
      obtain ⟨rfl, hS177, q176⟩ := q176
      refine wq_st (st' := []) rfl ?_
      refine wq_aload_n 0 rfl rfl dX11_readsInteger_96 ?_
      refine wq_iload_n 1 rfl rfl dX11_readsInteger_97 ?_
      refine wq_bipush (z := 6) (zlit rfl) rfl dX11_readsInteger_98 ?_
      refine wq_aload_n 0 rfl rfl dX11_readsInteger_100 ?_
      refine wq_bipush (z := 60) (zlit rfl) rfl dX11_readsInteger_101 ?_
      refine wN_V (As := [vI 60]) vm_X11_takes lk_X11_114 tT_343 rfl rfl (Nat.le_of_ble_eq_true rfl) (Nat.le_of_ble_eq_true rfl) (d' := d - 1) (by omega) dX11_readsInteger_103 q176 (fun v9 h179 q180 => ?_)
      obtain ⟨z178, rfl, hS181, q180⟩ := q180
      refine wq_st (st' := [vI z178, vI 6, vI p1, vR 343]) rfl ?_
      refine wq_if_eq 113 rfl dX11_readsInteger_106 (fun c182 => ?_) (fun c182 => ?_)
      · refine wq_iconst (z := 0) (zlit rfl) dX11_readsInteger_113 ?_
        refine wN_V (As := [vI p1, vI 6, vI 0]) vm_X11_writes lk_X11_163 tT_343 rfl rfl (Nat.le_of_ble_eq_true rfl) (Nat.le_of_ble_eq_true rfl) (d' := d - 1) (by omega) dX11_readsInteger_114 (q180.1 c182) (fun v9 h184 q185 => ?_)
        obtain ⟨rfl, hS186, q185⟩ := q185
        refine wq_st (st' := []) rfl ?_
        refine wq_aload_n 0 rfl rfl dX11_readsInteger_117 ?_
        refine wq_iload_n 1 rfl rfl dX11_readsInteger_118 ?_
        refine wN_V (As := [vI p1]) vm_X11_readsCount lk_X11_173 tT_343 rfl rfl (Nat.le_of_ble_eq_true rfl) (Nat.le_of_ble_eq_true rfl) (d' := d - 1) (by omega) dX11_readsInteger_119 q185 (fun v9 h188 q189 => ?_)
        obtain ⟨rfl, hS190, q189⟩ := q189
        refine wq_st (st' := []) rfl ?_
        exact wp_vret rfl dX11_readsInteger_122 q189
      · refine wq_iconst (z := 1) (zlit rfl) dX11_readsInteger_109 ?_
        refine wq_goto 114 rfl dX11_readsInteger_110 ?_
        refine wN_V (As := [vI p1, vI 6, vI 1]) vm_X11_writes lk_X11_163 tT_343 rfl rfl (Nat.le_of_ble_eq_true rfl) (Nat.le_of_ble_eq_true rfl) (d' := d - 1) (by omega) dX11_readsInteger_114 (q180.2 c182) (fun v9 h192 q193 => ?_)
        obtain ⟨rfl, hS194, q193⟩ := q193
        refine wq_st (st' := []) rfl ?_
        refine wq_aload_n 0 rfl rfl dX11_readsInteger_117 ?_
        refine wq_iload_n 1 rfl rfl dX11_readsInteger_118 ?_
        refine wN_V (As := [vI p1]) vm_X11_readsCount lk_X11_173 tT_343 rfl rfl (Nat.le_of_ble_eq_true rfl) (Nat.le_of_ble_eq_true rfl) (d' := d - 1) (by omega) dX11_readsInteger_119 q193 (fun v9 h196 q197 => ?_)
        obtain ⟨rfl, hS198, q197⟩ := q197
        refine wq_st (st' := []) rfl ?_
        exact wp_vret rfl dX11_readsInteger_122 q197
    · refine wq_iload_n 2 rfl rfl dX11_readsInteger_54 ?_
      refine wq_iconst (z := 2) (zlit rfl) dX11_readsInteger_55 ?_
      refine wq_icmp_eq 64 rfl dX11_readsInteger_56 (fun c199 => ?_) (fun c199 => ?_)
      · refine wq_aload_n 0 rfl rfl dX11_readsInteger_64 ?_
        refine wq_dup rfl dX11_readsInteger_65 ?_
        refine wq_getI fk_X11_101 tT_343 (fun _ _ _ => rfl) dX11_readsInteger_66 ?_
        refine wq_iconst (z := 1) (zlit rfl) dX11_readsInteger_69 ?_
        refine wq_iadd (((q163.2 x165 e166).2 c167).1 c199).1 dX11_readsInteger_70 ?_
        refine wq_putI fk_X11_101 tT_343 rfl rfl dX11_readsInteger_71 ?_
        refine wq_toph (fun h200 e201 => ?_)
        have sh200 : zSh h200 := zSh_of e201 hS164
        refine wq_aload_n 0 rfl rfl dX11_readsInteger_74 ?_
        refine wN_V (As := []) vm_X11_blanks lk_X11_111 tT_343 rfl rfl (Nat.le_of_ble_eq_true rfl) (Nat.le_of_ble_eq_true rfl) (d' := d - 1) (by omega) dX11_readsInteger_75 ((((q163.2 x165 e166).2 c167).1 c199).2 h200 e201) (fun v9 h203 q204 => ?_)
        obtain ⟨rfl, hS205, q204⟩ := q204
        refine wq_st (st' := []) rfl ?_
        refine wq_goto 89 rfl dX11_readsInteger_78 ?_
        refine wq_aload_n 0 rfl rfl dX11_readsInteger_89 ?_
        refine wq_iload_n 1 rfl rfl dX11_readsInteger_90 ?_
        refine wq_iconst (z := 4) (zlit rfl) dX11_readsInteger_91 ?_
        refine wq_iload_n 2 rfl rfl dX11_readsInteger_92 ?_
        refine wN_V (As := [vI p1, vI 4, vI x165]) vm_X11_writes lk_X11_163 tT_343 rfl rfl (Nat.le_of_ble_eq_true rfl) (Nat.le_of_ble_eq_true rfl) (d' := d - 1) (by omega) dX11_readsInteger_93 q204 (fun v9 h207 q208 => ?_)
        obtain ⟨rfl, hS209, q208⟩ := q208
        refine wq_st (st' := []) rfl ?_
        refine wq_aload_n 0 rfl rfl dX11_readsInteger_96 ?_
        refine wq_iload_n 1 rfl rfl dX11_readsInteger_97 ?_
        refine wq_bipush (z := 6) (zlit rfl) rfl dX11_readsInteger_98 ?_
        refine wq_aload_n 0 rfl rfl dX11_readsInteger_100 ?_
        refine wq_bipush (z := 60) (zlit rfl) rfl dX11_readsInteger_101 ?_
        refine wN_V (As := [vI 60]) vm_X11_takes lk_X11_114 tT_343 rfl rfl (Nat.le_of_ble_eq_true rfl) (Nat.le_of_ble_eq_true rfl) (d' := d - 1) (by omega) dX11_readsInteger_103 q208 (fun v9 h211 q212 => ?_)
        obtain ⟨z210, rfl, hS213, q212⟩ := q212
        refine wq_st (st' := [vI z210, vI 6, vI p1, vR 343]) rfl ?_
        refine wq_if_eq 113 rfl dX11_readsInteger_106 (fun c214 => ?_) (fun c214 => ?_)
        · refine wq_iconst (z := 0) (zlit rfl) dX11_readsInteger_113 ?_
          refine wN_V (As := [vI p1, vI 6, vI 0]) vm_X11_writes lk_X11_163 tT_343 rfl rfl (Nat.le_of_ble_eq_true rfl) (Nat.le_of_ble_eq_true rfl) (d' := d - 1) (by omega) dX11_readsInteger_114 (q212.1 c214) (fun v9 h216 q217 => ?_)
          obtain ⟨rfl, hS218, q217⟩ := q217
          refine wq_st (st' := []) rfl ?_
          refine wq_aload_n 0 rfl rfl dX11_readsInteger_117 ?_
          refine wq_iload_n 1 rfl rfl dX11_readsInteger_118 ?_
          refine wN_V (As := [vI p1]) vm_X11_readsCount lk_X11_173 tT_343 rfl rfl (Nat.le_of_ble_eq_true rfl) (Nat.le_of_ble_eq_true rfl) (d' := d - 1) (by omega) dX11_readsInteger_119 q217 (fun v9 h220 q221 => ?_)
          obtain ⟨rfl, hS222, q221⟩ := q221
          refine wq_st (st' := []) rfl ?_
          exact wp_vret rfl dX11_readsInteger_122 q221
        · refine wq_iconst (z := 1) (zlit rfl) dX11_readsInteger_109 ?_
          refine wq_goto 114 rfl dX11_readsInteger_110 ?_
          refine wN_V (As := [vI p1, vI 6, vI 1]) vm_X11_writes lk_X11_163 tT_343 rfl rfl (Nat.le_of_ble_eq_true rfl) (Nat.le_of_ble_eq_true rfl) (d' := d - 1) (by omega) dX11_readsInteger_114 (q212.2 c214) (fun v9 h224 q225 => ?_)
          obtain ⟨rfl, hS226, q225⟩ := q225
          refine wq_st (st' := []) rfl ?_
          refine wq_aload_n 0 rfl rfl dX11_readsInteger_117 ?_
          refine wq_iload_n 1 rfl rfl dX11_readsInteger_118 ?_
          refine wN_V (As := [vI p1]) vm_X11_readsCount lk_X11_173 tT_343 rfl rfl (Nat.le_of_ble_eq_true rfl) (Nat.le_of_ble_eq_true rfl) (d' := d - 1) (by omega) dX11_readsInteger_119 q225 (fun v9 h228 q229 => ?_)
          obtain ⟨rfl, hS230, q229⟩ := q229
          refine wq_st (st' := []) rfl ?_
          exact wp_vret rfl dX11_readsInteger_122 q229
      · refine wq_iload_n 2 rfl rfl dX11_readsInteger_59 ?_
        refine wq_iconst (z := 4) (zlit rfl) dX11_readsInteger_60 ?_
        refine wq_icmp_ne 81 rfl dX11_readsInteger_61 (fun c231 => ?_) (fun c231 => ?_)
        · refine wq_aload_n 0 rfl rfl dX11_readsInteger_81 ?_
          refine wq_aload_n 0 rfl rfl dX11_readsInteger_82 ?_
          refine wq_getI fk_X11_101 tT_343 (fun _ _ _ => rfl) dX11_readsInteger_83 ?_
          refine wN_V (As := [vI (gI h162 343 15)]) vm_X11_faults lk_X11_118 tT_343 rfl rfl (Nat.le_of_ble_eq_true rfl) (Nat.le_of_ble_eq_true rfl) (d' := d - 1) (by omega) dX11_readsInteger_86 ((((q163.2 x165 e166).2 c167).2 c199).1 c231) (fun v9 h233 q234 => ?_)
          obtain ⟨rfl, hS235, q234⟩ := q234
          refine wq_st (st' := []) rfl ?_
          refine wq_aload_n 0 rfl rfl dX11_readsInteger_89 ?_
          refine wq_iload_n 1 rfl rfl dX11_readsInteger_90 ?_
          refine wq_iconst (z := 4) (zlit rfl) dX11_readsInteger_91 ?_
          refine wq_iload_n 2 rfl rfl dX11_readsInteger_92 ?_
          refine wN_V (As := [vI p1, vI 4, vI x165]) vm_X11_writes lk_X11_163 tT_343 rfl rfl (Nat.le_of_ble_eq_true rfl) (Nat.le_of_ble_eq_true rfl) (d' := d - 1) (by omega) dX11_readsInteger_93 q234 (fun v9 h237 q238 => ?_)
          obtain ⟨rfl, hS239, q238⟩ := q238
          refine wq_st (st' := []) rfl ?_
          refine wq_aload_n 0 rfl rfl dX11_readsInteger_96 ?_
          refine wq_iload_n 1 rfl rfl dX11_readsInteger_97 ?_
          refine wq_bipush (z := 6) (zlit rfl) rfl dX11_readsInteger_98 ?_
          refine wq_aload_n 0 rfl rfl dX11_readsInteger_100 ?_
          refine wq_bipush (z := 60) (zlit rfl) rfl dX11_readsInteger_101 ?_
          refine wN_V (As := [vI 60]) vm_X11_takes lk_X11_114 tT_343 rfl rfl (Nat.le_of_ble_eq_true rfl) (Nat.le_of_ble_eq_true rfl) (d' := d - 1) (by omega) dX11_readsInteger_103 q238 (fun v9 h241 q242 => ?_)
          obtain ⟨z240, rfl, hS243, q242⟩ := q242
          refine wq_st (st' := [vI z240, vI 6, vI p1, vR 343]) rfl ?_
          refine wq_if_eq 113 rfl dX11_readsInteger_106 (fun c244 => ?_) (fun c244 => ?_)
          · refine wq_iconst (z := 0) (zlit rfl) dX11_readsInteger_113 ?_
            refine wN_V (As := [vI p1, vI 6, vI 0]) vm_X11_writes lk_X11_163 tT_343 rfl rfl (Nat.le_of_ble_eq_true rfl) (Nat.le_of_ble_eq_true rfl) (d' := d - 1) (by omega) dX11_readsInteger_114 (q242.1 c244) (fun v9 h246 q247 => ?_)
            obtain ⟨rfl, hS248, q247⟩ := q247
            refine wq_st (st' := []) rfl ?_
            refine wq_aload_n 0 rfl rfl dX11_readsInteger_117 ?_
            refine wq_iload_n 1 rfl rfl dX11_readsInteger_118 ?_
            refine wN_V (As := [vI p1]) vm_X11_readsCount lk_X11_173 tT_343 rfl rfl (Nat.le_of_ble_eq_true rfl) (Nat.le_of_ble_eq_true rfl) (d' := d - 1) (by omega) dX11_readsInteger_119 q247 (fun v9 h250 q251 => ?_)
            obtain ⟨rfl, hS252, q251⟩ := q251
            refine wq_st (st' := []) rfl ?_
            exact wp_vret rfl dX11_readsInteger_122 q251
          · refine wq_iconst (z := 1) (zlit rfl) dX11_readsInteger_109 ?_
            refine wq_goto 114 rfl dX11_readsInteger_110 ?_
            refine wN_V (As := [vI p1, vI 6, vI 1]) vm_X11_writes lk_X11_163 tT_343 rfl rfl (Nat.le_of_ble_eq_true rfl) (Nat.le_of_ble_eq_true rfl) (d' := d - 1) (by omega) dX11_readsInteger_114 (q242.2 c244) (fun v9 h254 q255 => ?_)
            obtain ⟨rfl, hS256, q255⟩ := q255
            refine wq_st (st' := []) rfl ?_
            refine wq_aload_n 0 rfl rfl dX11_readsInteger_117 ?_
            refine wq_iload_n 1 rfl rfl dX11_readsInteger_118 ?_
            refine wN_V (As := [vI p1]) vm_X11_readsCount lk_X11_173 tT_343 rfl rfl (Nat.le_of_ble_eq_true rfl) (Nat.le_of_ble_eq_true rfl) (d' := d - 1) (by omega) dX11_readsInteger_119 q255 (fun v9 h258 q259 => ?_)
            obtain ⟨rfl, hS260, q259⟩ := q259
            refine wq_st (st' := []) rfl ?_
            exact wp_vret rfl dX11_readsInteger_122 q259
        · refine wq_aload_n 0 rfl rfl dX11_readsInteger_64 ?_
          refine wq_dup rfl dX11_readsInteger_65 ?_
          refine wq_getI fk_X11_101 tT_343 (fun _ _ _ => rfl) dX11_readsInteger_66 ?_
          refine wq_iconst (z := 1) (zlit rfl) dX11_readsInteger_69 ?_
          refine wq_iadd ((((q163.2 x165 e166).2 c167).2 c199).2 c231).1 dX11_readsInteger_70 ?_
          refine wq_putI fk_X11_101 tT_343 rfl rfl dX11_readsInteger_71 ?_
          refine wq_toph (fun h261 e262 => ?_)
          have sh261 : zSh h261 := zSh_of e262 hS164
          refine wq_aload_n 0 rfl rfl dX11_readsInteger_74 ?_
          refine wN_V (As := []) vm_X11_blanks lk_X11_111 tT_343 rfl rfl (Nat.le_of_ble_eq_true rfl) (Nat.le_of_ble_eq_true rfl) (d' := d - 1) (by omega) dX11_readsInteger_75 (((((q163.2 x165 e166).2 c167).2 c199).2 c231).2 h261 e262) (fun v9 h264 q265 => ?_)
          obtain ⟨rfl, hS266, q265⟩ := q265
          refine wq_st (st' := []) rfl ?_
          refine wq_goto 89 rfl dX11_readsInteger_78 ?_
          refine wq_aload_n 0 rfl rfl dX11_readsInteger_89 ?_
          refine wq_iload_n 1 rfl rfl dX11_readsInteger_90 ?_
          refine wq_iconst (z := 4) (zlit rfl) dX11_readsInteger_91 ?_
          refine wq_iload_n 2 rfl rfl dX11_readsInteger_92 ?_
          refine wN_V (As := [vI p1, vI 4, vI x165]) vm_X11_writes lk_X11_163 tT_343 rfl rfl (Nat.le_of_ble_eq_true rfl) (Nat.le_of_ble_eq_true rfl) (d' := d - 1) (by omega) dX11_readsInteger_93 q265 (fun v9 h268 q269 => ?_)
          obtain ⟨rfl, hS270, q269⟩ := q269
          refine wq_st (st' := []) rfl ?_
          refine wq_aload_n 0 rfl rfl dX11_readsInteger_96 ?_
          refine wq_iload_n 1 rfl rfl dX11_readsInteger_97 ?_
          refine wq_bipush (z := 6) (zlit rfl) rfl dX11_readsInteger_98 ?_
          refine wq_aload_n 0 rfl rfl dX11_readsInteger_100 ?_
          refine wq_bipush (z := 60) (zlit rfl) rfl dX11_readsInteger_101 ?_
          refine wN_V (As := [vI 60]) vm_X11_takes lk_X11_114 tT_343 rfl rfl (Nat.le_of_ble_eq_true rfl) (Nat.le_of_ble_eq_true rfl) (d' := d - 1) (by omega) dX11_readsInteger_103 q269 (fun v9 h272 q273 => ?_)
          obtain ⟨z271, rfl, hS274, q273⟩ := q273
          refine wq_st (st' := [vI z271, vI 6, vI p1, vR 343]) rfl ?_
          refine wq_if_eq 113 rfl dX11_readsInteger_106 (fun c275 => ?_) (fun c275 => ?_)
          · refine wq_iconst (z := 0) (zlit rfl) dX11_readsInteger_113 ?_
            refine wN_V (As := [vI p1, vI 6, vI 0]) vm_X11_writes lk_X11_163 tT_343 rfl rfl (Nat.le_of_ble_eq_true rfl) (Nat.le_of_ble_eq_true rfl) (d' := d - 1) (by omega) dX11_readsInteger_114 (q273.1 c275) (fun v9 h277 q278 => ?_)
            obtain ⟨rfl, hS279, q278⟩ := q278
            refine wq_st (st' := []) rfl ?_
            refine wq_aload_n 0 rfl rfl dX11_readsInteger_117 ?_
            refine wq_iload_n 1 rfl rfl dX11_readsInteger_118 ?_
            refine wN_V (As := [vI p1]) vm_X11_readsCount lk_X11_173 tT_343 rfl rfl (Nat.le_of_ble_eq_true rfl) (Nat.le_of_ble_eq_true rfl) (d' := d - 1) (by omega) dX11_readsInteger_119 q278 (fun v9 h281 q282 => ?_)
            obtain ⟨rfl, hS283, q282⟩ := q282
            refine wq_st (st' := []) rfl ?_
            exact wp_vret rfl dX11_readsInteger_122 q282
          · refine wq_iconst (z := 1) (zlit rfl) dX11_readsInteger_109 ?_
            refine wq_goto 114 rfl dX11_readsInteger_110 ?_
            refine wN_V (As := [vI p1, vI 6, vI 1]) vm_X11_writes lk_X11_163 tT_343 rfl rfl (Nat.le_of_ble_eq_true rfl) (Nat.le_of_ble_eq_true rfl) (d' := d - 1) (by omega) dX11_readsInteger_114 (q273.2 c275) (fun v9 h285 q286 => ?_)
            obtain ⟨rfl, hS287, q286⟩ := q286
            refine wq_st (st' := []) rfl ?_
            refine wq_aload_n 0 rfl rfl dX11_readsInteger_117 ?_
            refine wq_iload_n 1 rfl rfl dX11_readsInteger_118 ?_
            refine wN_V (As := [vI p1]) vm_X11_readsCount lk_X11_173 tT_343 rfl rfl (Nat.le_of_ble_eq_true rfl) (Nat.le_of_ble_eq_true rfl) (d' := d - 1) (by omega) dX11_readsInteger_119 q286 (fun v9 h289 q290 => ?_)
            obtain ⟨rfl, hS291, q290⟩ := q290
            refine wq_st (st' := []) rfl ?_
            exact wp_vret rfl dX11_readsInteger_122 q290
theorem dX11_readsType_0 : decode cX11_readsType 0 = .ok (.aload_n 0, 1) := by decide +kernel
theorem dX11_readsType_1 : decode cX11_readsType 1 = .ok (.invokevirtual 104, 3) := by decide +kernel
theorem dX11_readsType_4 : decode cX11_readsType 4 = .ok (.istore_n 2, 1) := by decide +kernel
theorem dX11_readsType_5 : decode cX11_readsType 5 = .ok (.iload_n 2, 1) := by decide +kernel
theorem dX11_readsType_6 : decode cX11_readsType 6 = .ok (.bipush 117, 2) := by decide +kernel
theorem dX11_readsType_8 : decode cX11_readsType 8 = .ok (.if_icmp .eq 9, 3) := by decide +kernel
theorem dX11_readsType_11 : decode cX11_readsType 11 = .ok (.iload_n 2, 1) := by decide +kernel
theorem dX11_readsType_12 : decode cX11_readsType 12 = .ok (.bipush 105, 2) := by decide +kernel
theorem dX11_readsType_14 : decode cX11_readsType 14 = .ok (.if_icmp .ne 11, 3) := by decide +kernel
theorem dX11_readsType_17 : decode cX11_readsType 17 = .ok (.aload_n 0, 1) := by decide +kernel
theorem dX11_readsType_18 : decode cX11_readsType 18 = .ok (.iload_n 1, 1) := by decide +kernel
theorem dX11_readsType_19 : decode cX11_readsType 19 = .ok (.invokevirtual 176, 3) := by decide +kernel
theorem dX11_readsType_22 : decode cX11_readsType 22 = .ok (.goto 103, 3) := by decide +kernel
theorem dX11_readsType_25 : decode cX11_readsType 25 = .ok (.iload_n 2, 1) := by decide +kernel
theorem dX11_readsType_26 : decode cX11_readsType 26 = .ok (.bipush 120, 2) := by decide +kernel
theorem dX11_readsType_28 : decode cX11_readsType 28 = .ok (.if_icmp .eq 15, 3) := by decide +kernel
theorem dX11_readsType_31 : decode cX11_readsType 31 = .ok (.iload_n 2, 1) := by decide +kernel
theorem dX11_readsType_32 : decode cX11_readsType 32 = .ok (.bipush 115, 2) := by decide +kernel
theorem dX11_readsType_34 : decode cX11_readsType 34 = .ok (.if_icmp .eq 9, 3) := by decide +kernel
theorem dX11_readsType_37 : decode cX11_readsType 37 = .ok (.iload_n 2, 1) := by decide +kernel
theorem dX11_readsType_38 : decode cX11_readsType 38 = .ok (.bipush 99, 2) := by decide +kernel
theorem dX11_readsType_40 : decode cX11_readsType 40 = .ok (.if_icmp .ne 32, 3) := by decide +kernel
theorem dX11_readsType_43 : decode cX11_readsType 43 = .ok (.aload_n 0, 1) := by decide +kernel
theorem dX11_readsType_44 : decode cX11_readsType 44 = .ok (.iload_n 1, 1) := by decide +kernel
theorem dX11_readsType_45 : decode cX11_readsType 45 = .ok (.iload_n 2, 1) := by decide +kernel
theorem dX11_readsType_46 : decode cX11_readsType 46 = .ok (.bipush 120, 2) := by decide +kernel
theorem dX11_readsType_48 : decode cX11_readsType 48 = .ok (.if_icmp .ne 7, 3) := by decide +kernel
theorem dX11_readsType_51 : decode cX11_readsType 51 = .ok (.iconst 2, 1) := by decide +kernel
theorem dX11_readsType_52 : decode cX11_readsType 52 = .ok (.goto 14, 3) := by decide +kernel
theorem dX11_readsType_55 : decode cX11_readsType 55 = .ok (.iload_n 2, 1) := by decide +kernel
theorem dX11_readsType_56 : decode cX11_readsType 56 = .ok (.bipush 115, 2) := by decide +kernel
theorem dX11_readsType_58 : decode cX11_readsType 58 = .ok (.if_icmp .ne 7, 3) := by decide +kernel
theorem dX11_readsType_61 : decode cX11_readsType 61 = .ok (.iconst 3, 1) := by decide +kernel
theorem dX11_readsType_62 : decode cX11_readsType 62 = .ok (.goto 4, 3) := by decide +kernel
theorem dX11_readsType_65 : decode cX11_readsType 65 = .ok (.iconst 4, 1) := by decide +kernel
theorem dX11_readsType_66 : decode cX11_readsType 66 = .ok (.invokevirtual 179, 3) := by decide +kernel
theorem dX11_readsType_69 : decode cX11_readsType 69 = .ok (.goto 56, 3) := by decide +kernel
theorem dX11_readsType_72 : decode cX11_readsType 72 = .ok (.iload_n 2, 1) := by decide +kernel
theorem dX11_readsType_73 : decode cX11_readsType 73 = .ok (.bipush 123, 2) := by decide +kernel
theorem dX11_readsType_75 : decode cX11_readsType 75 = .ok (.if_icmp .ne 42, 3) := by decide +kernel
theorem dX11_readsType_78 : decode cX11_readsType 78 = .ok (.aload_n 0, 1) := by decide +kernel
theorem dX11_readsType_79 : decode cX11_readsType 79 = .ok (.getfield 183, 3) := by decide +kernel
theorem dX11_readsType_82 : decode cX11_readsType 82 = .ok (.iconst 3, 1) := by decide +kernel
theorem dX11_readsType_83 : decode cX11_readsType 83 = .ok (.if_icmp .ge 34, 3) := by decide +kernel
theorem dX11_readsType_86 : decode cX11_readsType 86 = .ok (.aload_n 0, 1) := by decide +kernel
theorem dX11_readsType_87 : decode cX11_readsType 87 = .ok (.bipush 123, 2) := by decide +kernel
theorem dX11_readsType_89 : decode cX11_readsType 89 = .ok (.invokevirtual 114, 3) := by decide +kernel
theorem dX11_readsType_92 : decode cX11_readsType 92 = .ok (.pop, 1) := by decide +kernel
theorem dX11_readsType_93 : decode cX11_readsType 93 = .ok (.aload_n 0, 1) := by decide +kernel
theorem dX11_readsType_94 : decode cX11_readsType 94 = .ok (.iload_n 1, 1) := by decide +kernel
theorem dX11_readsType_95 : decode cX11_readsType 95 = .ok (.iconst 0, 1) := by decide +kernel
theorem dX11_readsType_96 : decode cX11_readsType 96 = .ok (.iconst 1, 1) := by decide +kernel
theorem dX11_readsType_97 : decode cX11_readsType 97 = .ok (.invokevirtual 163, 3) := by decide +kernel
theorem dX11_readsType_100 : decode cX11_readsType 100 = .ok (.aload_n 0, 1) := by decide +kernel
theorem dX11_readsType_101 : decode cX11_readsType 101 = .ok (.dup, 1) := by decide +kernel
theorem dX11_readsType_102 : decode cX11_readsType 102 = .ok (.getfield 183, 3) := by decide +kernel
theorem dX11_readsType_105 : decode cX11_readsType 105 = .ok (.iconst 1, 1) := by decide +kernel
theorem dX11_readsType_106 : decode cX11_readsType 106 = .ok (.iadd, 1) := by decide +kernel
theorem dX11_readsType_107 : decode cX11_readsType 107 = .ok (.putfield 183, 3) := by decide +kernel
theorem dX11_readsType_110 : decode cX11_readsType 110 = .ok (.aload_n 0, 1) := by decide +kernel
theorem dX11_readsType_111 : decode cX11_readsType 111 = .ok (.iload_n 1, 1) := by decide +kernel
theorem dX11_readsType_112 : decode cX11_readsType 112 = .ok (.putfield 186, 3) := by decide +kernel
theorem dX11_readsType_115 : decode cX11_readsType 115 = .ok (.iconst 0, 1) := by decide +kernel
theorem dX11_readsType_116 : decode cX11_readsType 116 = .ok (.ireturn, 1) := by decide +kernel
theorem dX11_readsType_117 : decode cX11_readsType 117 = .ok (.aload_n 0, 1) := by decide +kernel
theorem dX11_readsType_118 : decode cX11_readsType 118 = .ok (.aload_n 0, 1) := by decide +kernel
theorem dX11_readsType_119 : decode cX11_readsType 119 = .ok (.getfield 101, 3) := by decide +kernel
theorem dX11_readsType_122 : decode cX11_readsType 122 = .ok (.invokevirtual 118, 3) := by decide +kernel
theorem dX11_readsType_125 : decode cX11_readsType 125 = .ok (.iconst 1, 1) := by decide +kernel
theorem dX11_readsType_126 : decode cX11_readsType 126 = .ok (.ireturn, 1) := by decide +kernel
theorem vc_X11_readsType_0 {G : zG} {d : Nat} {Q : Option zV → zHp → Prop} (p1 : Int) (h : zHp) (hS : zSh h) (hd : 7 ≤ d)  
    (hv : (wpN G (d - 1) M_X11_next 0 (zar 0 [vR 343]) [] h (qI (fun z1 h2 => zSh h2 ∧ ((z1 = 117 → (wpN G (d - 1) M_X11_readsInteger 0 (zar 0 [vR 343, vI p1]) [] h2 (qV (fun h7 => zSh h7 ∧ Q (some (vI 1)) h7)))) ∧ (z1 ≠ 117 → ((z1 ≠ 105 → ((z1 = 120 → ((z1 ≠ 120 → ((z1 ≠ 115 → (wpN G (d - 1) M_X11_readsCheck 0 (zar 0 [vR 343, vI p1, vI 4]) [] h2 (qV (fun h15 => zSh h15 ∧ Q (some (vI 1)) h15)))) ∧ (z1 = 115 → (wpN G (d - 1) M_X11_readsCheck 0 (zar 0 [vR 343, vI p1, vI 3]) [] h2 (qV (fun h19 => zSh h19 ∧ Q (some (vI 1)) h19)))))) ∧ (z1 = 120 → (wpN G (d - 1) M_X11_readsCheck 0 (zar 0 [vR 343, vI p1, vI 2]) [] h2 (qV (fun h23 => zSh h23 ∧ Q (some (vI 1)) h23)))))) ∧ (z1 ≠ 120 → ((z1 = 115 → ((z1 ≠ 120 → ((z1 ≠ 115 → (wpN G (d - 1) M_X11_readsCheck 0 (zar 0 [vR 343, vI p1, vI 4]) [] h2 (qV (fun h30 => zSh h30 ∧ Q (some (vI 1)) h30)))) ∧ (z1 = 115 → (wpN G (d - 1) M_X11_readsCheck 0 (zar 0 [vR 343, vI p1, vI 3]) [] h2 (qV (fun h34 => zSh h34 ∧ Q (some (vI 1)) h34)))))) ∧ (z1 = 120 → (wpN G (d - 1) M_X11_readsCheck 0 (zar 0 [vR 343, vI p1, vI 2]) [] h2 (qV (fun h38 => zSh h38 ∧ Q (some (vI 1)) h38)))))) ∧ (z1 ≠ 115 → ((z1 ≠ 99 → ((z1 ≠ 123 → (wpN G (d - 1) M_X11_faults 0 (zar 0 [vR 343, vI (gI h2 343 15)]) [] h2 (qV (fun h44 => zSh h44 ∧ Q (some (vI 1)) h44)))) ∧ (z1 = 123 → ((3 ≤ (gI h2 343 19) → (wpN G (d - 1) M_X11_faults 0 (zar 0 [vR 343, vI (gI h2 343 15)]) [] h2 (qV (fun h49 => zSh h49 ∧ Q (some (vI 1)) h49)))) ∧ ((gI h2 343 19) < 3 → (wpN G (d - 1) M_X11_takes 0 (zar 0 [vR 343, vI 123]) [] h2 (qI (fun z52 h53 => zSh h53 ∧ (wpN G (d - 1) M_X11_writes 0 (zar 0 [vR 343, vI p1, vI 0, vI 1]) [] h53 (qV (fun h57 => zSh h57 ∧ ((-2147483648 ≤ (gI h57 343 19) + 1 ∧ (gI h57 343 19) + 1 ≤ 2147483647) ∧ (∀ h60 : zHp, h60 = sI h57 343 19 ((gI h57 343 19) + 1) → (∀ h62 : zHp, h62 = sI h60 343 20 p1 → Q (some (vI 0)) h62)))))))))))))) ∧ (z1 = 99 → ((z1 ≠ 120 → ((z1 ≠ 115 → (wpN G (d - 1) M_X11_readsCheck 0 (zar 0 [vR 343, vI p1, vI 4]) [] h2 (qV (fun h67 => zSh h67 ∧ Q (some (vI 1)) h67)))) ∧ (z1 = 115 → (wpN G (d - 1) M_X11_readsCheck 0 (zar 0 [vR 343, vI p1, vI 3]) [] h2 (qV (fun h71 => zSh h71 ∧ Q (some (vI 1)) h71)))))) ∧ (z1 = 120 → (wpN G (d - 1) M_X11_readsCheck 0 (zar 0 [vR 343, vI p1, vI 2]) [] h2 (qV (fun h75 => zSh h75 ∧ Q (some (vI 1)) h75)))))))))))) ∧ (z1 = 105 → (wpN G (d - 1) M_X11_readsInteger 0 (zar 0 [vR 343, vI p1]) [] h2 (qV (fun h79 => zSh h79 ∧ Q (some (vI 1)) h79))))))))))) : wpN G d M_X11_readsType 0 [(0, vR 343), (1, vI p1)] [] h Q := by
  refine wq_aload_n 0 rfl rfl dX11_readsType_0 ?_
  refine wN_V (As := []) vm_X11_next lk_X11_104 tT_343 rfl rfl (Nat.le_of_ble_eq_true rfl) (Nat.le_of_ble_eq_true rfl) (d' := d - 1) (by omega) dX11_readsType_1 hv (fun v9 h2 q3 => ?_)
  obtain ⟨z1, rfl, hS4, q3⟩ := q3
  refine wq_st (st' := [vI z1]) rfl ?_
  refine wq_istore_n (ls' := [(0, vR 343), (1, vI p1), (2, vI z1)]) rfl (by decide) rfl dX11_readsType_4 ?_
  refine wq_iload_n 2 rfl rfl dX11_readsType_5 ?_
  refine wq_bipush (z := 117) (zlit rfl) rfl dX11_readsType_6 ?_
  refine wq_icmp_eq 17 rfl dX11_readsType_8 (fun c5 => ?_) (fun c5 => ?_)
  · refine wq_aload_n 0 rfl rfl dX11_readsType_17 ?_
    refine wq_iload_n 1 rfl rfl dX11_readsType_18 ?_
    refine wN_V (As := [vI p1]) vm_X11_readsInteger lk_X11_176 tT_343 rfl rfl (Nat.le_of_ble_eq_true rfl) (Nat.le_of_ble_eq_true rfl) (d' := d - 1) (by omega) dX11_readsType_19 (q3.1 c5) (fun v9 h7 q8 => ?_)
    obtain ⟨rfl, hS9, q8⟩ := q8
    refine wq_st (st' := []) rfl ?_
    refine wq_goto 125 rfl dX11_readsType_22 ?_
    refine wq_iconst (z := 1) (zlit rfl) dX11_readsType_125 ?_
    exact wp_zret (Or.inr rfl) rfl dX11_readsType_126 q8
  · refine wq_iload_n 2 rfl rfl dX11_readsType_11 ?_
    refine wq_bipush (z := 105) (zlit rfl) rfl dX11_readsType_12 ?_
    refine wq_icmp_ne 25 rfl dX11_readsType_14 (fun c10 => ?_) (fun c10 => ?_)
    · refine wq_iload_n 2 rfl rfl dX11_readsType_25 ?_
      refine wq_bipush (z := 120) (zlit rfl) rfl dX11_readsType_26 ?_
      refine wq_icmp_eq 43 rfl dX11_readsType_28 (fun c11 => ?_) (fun c11 => ?_)
      · refine wq_aload_n 0 rfl rfl dX11_readsType_43 ?_
        refine wq_iload_n 1 rfl rfl dX11_readsType_44 ?_
        refine wq_iload_n 2 rfl rfl dX11_readsType_45 ?_
        refine wq_bipush (z := 120) (zlit rfl) rfl dX11_readsType_46 ?_
        refine wq_icmp_ne 55 rfl dX11_readsType_48 (fun c12 => ?_) (fun c12 => ?_)
        · refine wq_iload_n 2 rfl rfl dX11_readsType_55 ?_
          refine wq_bipush (z := 115) (zlit rfl) rfl dX11_readsType_56 ?_
          refine wq_icmp_ne 65 rfl dX11_readsType_58 (fun c13 => ?_) (fun c13 => ?_)
          · refine wq_iconst (z := 4) (zlit rfl) dX11_readsType_65 ?_
            refine wN_V (As := [vI p1, vI 4]) vm_X11_readsCheck lk_X11_179 tT_343 rfl rfl (Nat.le_of_ble_eq_true rfl) (Nat.le_of_ble_eq_true rfl) (d' := d - 1) (by omega) dX11_readsType_66 (((((q3.2 c5).1 c10).1 c11).1 c12).1 c13) (fun v9 h15 q16 => ?_)
            obtain ⟨rfl, hS17, q16⟩ := q16
            refine wq_st (st' := []) rfl ?_
            refine wq_goto 125 rfl dX11_readsType_69 ?_
            refine wq_iconst (z := 1) (zlit rfl) dX11_readsType_125 ?_
            exact wp_zret (Or.inr rfl) rfl dX11_readsType_126 q16
          · refine wq_iconst (z := 3) (zlit rfl) dX11_readsType_61 ?_
            refine wq_goto 66 rfl dX11_readsType_62 ?_
            refine wN_V (As := [vI p1, vI 3]) vm_X11_readsCheck lk_X11_179 tT_343 rfl rfl (Nat.le_of_ble_eq_true rfl) (Nat.le_of_ble_eq_true rfl) (d' := d - 1) (by omega) dX11_readsType_66 (((((q3.2 c5).1 c10).1 c11).1 c12).2 c13) (fun v9 h19 q20 => ?_)
            obtain ⟨rfl, hS21, q20⟩ := q20
            refine wq_st (st' := []) rfl ?_
            refine wq_goto 125 rfl dX11_readsType_69 ?_
            refine wq_iconst (z := 1) (zlit rfl) dX11_readsType_125 ?_
            exact wp_zret (Or.inr rfl) rfl dX11_readsType_126 q20
        · refine wq_iconst (z := 2) (zlit rfl) dX11_readsType_51 ?_
          refine wq_goto 66 rfl dX11_readsType_52 ?_
          refine wN_V (As := [vI p1, vI 2]) vm_X11_readsCheck lk_X11_179 tT_343 rfl rfl (Nat.le_of_ble_eq_true rfl) (Nat.le_of_ble_eq_true rfl) (d' := d - 1) (by omega) dX11_readsType_66 ((((q3.2 c5).1 c10).1 c11).2 c12) (fun v9 h23 q24 => ?_)
          obtain ⟨rfl, hS25, q24⟩ := q24
          refine wq_st (st' := []) rfl ?_
          refine wq_goto 125 rfl dX11_readsType_69 ?_
          refine wq_iconst (z := 1) (zlit rfl) dX11_readsType_125 ?_
          exact wp_zret (Or.inr rfl) rfl dX11_readsType_126 q24
      · refine wq_iload_n 2 rfl rfl dX11_readsType_31 ?_
        refine wq_bipush (z := 115) (zlit rfl) rfl dX11_readsType_32 ?_
        refine wq_icmp_eq 43 rfl dX11_readsType_34 (fun c26 => ?_) (fun c26 => ?_)
        · refine wq_aload_n 0 rfl rfl dX11_readsType_43 ?_
          refine wq_iload_n 1 rfl rfl dX11_readsType_44 ?_
          refine wq_iload_n 2 rfl rfl dX11_readsType_45 ?_
          refine wq_bipush (z := 120) (zlit rfl) rfl dX11_readsType_46 ?_
          refine wq_icmp_ne 55 rfl dX11_readsType_48 (fun c27 => ?_) (fun c27 => ?_)
          · refine wq_iload_n 2 rfl rfl dX11_readsType_55 ?_
            refine wq_bipush (z := 115) (zlit rfl) rfl dX11_readsType_56 ?_
            refine wq_icmp_ne 65 rfl dX11_readsType_58 (fun c28 => ?_) (fun c28 => ?_)
            · refine wq_iconst (z := 4) (zlit rfl) dX11_readsType_65 ?_
              refine wN_V (As := [vI p1, vI 4]) vm_X11_readsCheck lk_X11_179 tT_343 rfl rfl (Nat.le_of_ble_eq_true rfl) (Nat.le_of_ble_eq_true rfl) (d' := d - 1) (by omega) dX11_readsType_66 ((((((q3.2 c5).1 c10).2 c11).1 c26).1 c27).1 c28) (fun v9 h30 q31 => ?_)
              obtain ⟨rfl, hS32, q31⟩ := q31
              refine wq_st (st' := []) rfl ?_
              refine wq_goto 125 rfl dX11_readsType_69 ?_
              refine wq_iconst (z := 1) (zlit rfl) dX11_readsType_125 ?_
              exact wp_zret (Or.inr rfl) rfl dX11_readsType_126 q31
            · refine wq_iconst (z := 3) (zlit rfl) dX11_readsType_61 ?_
              refine wq_goto 66 rfl dX11_readsType_62 ?_
              refine wN_V (As := [vI p1, vI 3]) vm_X11_readsCheck lk_X11_179 tT_343 rfl rfl (Nat.le_of_ble_eq_true rfl) (Nat.le_of_ble_eq_true rfl) (d' := d - 1) (by omega) dX11_readsType_66 ((((((q3.2 c5).1 c10).2 c11).1 c26).1 c27).2 c28) (fun v9 h34 q35 => ?_)
              obtain ⟨rfl, hS36, q35⟩ := q35
              refine wq_st (st' := []) rfl ?_
              refine wq_goto 125 rfl dX11_readsType_69 ?_
              refine wq_iconst (z := 1) (zlit rfl) dX11_readsType_125 ?_
              exact wp_zret (Or.inr rfl) rfl dX11_readsType_126 q35
          · refine wq_iconst (z := 2) (zlit rfl) dX11_readsType_51 ?_
            refine wq_goto 66 rfl dX11_readsType_52 ?_
            refine wN_V (As := [vI p1, vI 2]) vm_X11_readsCheck lk_X11_179 tT_343 rfl rfl (Nat.le_of_ble_eq_true rfl) (Nat.le_of_ble_eq_true rfl) (d' := d - 1) (by omega) dX11_readsType_66 (((((q3.2 c5).1 c10).2 c11).1 c26).2 c27) (fun v9 h38 q39 => ?_)
            obtain ⟨rfl, hS40, q39⟩ := q39
            refine wq_st (st' := []) rfl ?_
            refine wq_goto 125 rfl dX11_readsType_69 ?_
            refine wq_iconst (z := 1) (zlit rfl) dX11_readsType_125 ?_
            exact wp_zret (Or.inr rfl) rfl dX11_readsType_126 q39
        · refine wq_iload_n 2 rfl rfl dX11_readsType_37 ?_
          refine wq_bipush (z := 99) (zlit rfl) rfl dX11_readsType_38 ?_
          refine wq_icmp_ne 72 rfl dX11_readsType_40 (fun c41 => ?_) (fun c41 => ?_)
          · refine wq_iload_n 2 rfl rfl dX11_readsType_72 ?_
            refine wq_bipush (z := 123) (zlit rfl) rfl dX11_readsType_73 ?_
            refine wq_icmp_ne 117 rfl dX11_readsType_75 (fun c42 => ?_) (fun c42 => ?_)
            · refine wq_aload_n 0 rfl rfl dX11_readsType_117 ?_
              refine wq_aload_n 0 rfl rfl dX11_readsType_118 ?_
              refine wq_getI fk_X11_101 tT_343 (fun _ _ _ => rfl) dX11_readsType_119 ?_
              refine wN_V (As := [vI (gI h2 343 15)]) vm_X11_faults lk_X11_118 tT_343 rfl rfl (Nat.le_of_ble_eq_true rfl) (Nat.le_of_ble_eq_true rfl) (d' := d - 1) (by omega) dX11_readsType_122 ((((((q3.2 c5).1 c10).2 c11).2 c26).1 c41).1 c42) (fun v9 h44 q45 => ?_)
              obtain ⟨rfl, hS46, q45⟩ := q45
              refine wq_st (st' := []) rfl ?_
              refine wq_iconst (z := 1) (zlit rfl) dX11_readsType_125 ?_
              exact wp_zret (Or.inr rfl) rfl dX11_readsType_126 q45
            · refine wq_aload_n 0 rfl rfl dX11_readsType_78 ?_
              refine wq_getI fk_X11_183 tT_343 (fun _ _ _ => rfl) dX11_readsType_79 ?_
              refine wq_iconst (z := 3) (zlit rfl) dX11_readsType_82 ?_
              refine wq_icmp_ge 117 rfl dX11_readsType_83 (fun c47 => ?_) (fun c47 => ?_)
              · refine wq_aload_n 0 rfl rfl dX11_readsType_117 ?_
                refine wq_aload_n 0 rfl rfl dX11_readsType_118 ?_
                refine wq_getI fk_X11_101 tT_343 (fun _ _ _ => rfl) dX11_readsType_119 ?_
                refine wN_V (As := [vI (gI h2 343 15)]) vm_X11_faults lk_X11_118 tT_343 rfl rfl (Nat.le_of_ble_eq_true rfl) (Nat.le_of_ble_eq_true rfl) (d' := d - 1) (by omega) dX11_readsType_122 (((((((q3.2 c5).1 c10).2 c11).2 c26).1 c41).2 c42).1 c47) (fun v9 h49 q50 => ?_)
                obtain ⟨rfl, hS51, q50⟩ := q50
                refine wq_st (st' := []) rfl ?_
                refine wq_iconst (z := 1) (zlit rfl) dX11_readsType_125 ?_
                exact wp_zret (Or.inr rfl) rfl dX11_readsType_126 q50
              · refine wq_aload_n 0 rfl rfl dX11_readsType_86 ?_
                refine wq_bipush (z := 123) (zlit rfl) rfl dX11_readsType_87 ?_
                refine wN_V (As := [vI 123]) vm_X11_takes lk_X11_114 tT_343 rfl rfl (Nat.le_of_ble_eq_true rfl) (Nat.le_of_ble_eq_true rfl) (d' := d - 1) (by omega) dX11_readsType_89 (((((((q3.2 c5).1 c10).2 c11).2 c26).1 c41).2 c42).2 c47) (fun v9 h53 q54 => ?_)
                obtain ⟨z52, rfl, hS55, q54⟩ := q54
                refine wq_st (st' := [vI z52]) rfl ?_
                refine wq_pop rfl dX11_readsType_92 ?_
                refine wq_aload_n 0 rfl rfl dX11_readsType_93 ?_
                refine wq_iload_n 1 rfl rfl dX11_readsType_94 ?_
                refine wq_iconst (z := 0) (zlit rfl) dX11_readsType_95 ?_
                refine wq_iconst (z := 1) (zlit rfl) dX11_readsType_96 ?_
                refine wN_V (As := [vI p1, vI 0, vI 1]) vm_X11_writes lk_X11_163 tT_343 rfl rfl (Nat.le_of_ble_eq_true rfl) (Nat.le_of_ble_eq_true rfl) (d' := d - 1) (by omega) dX11_readsType_97 q54 (fun v9 h57 q58 => ?_)
                obtain ⟨rfl, hS59, q58⟩ := q58
                refine wq_st (st' := []) rfl ?_
                refine wq_aload_n 0 rfl rfl dX11_readsType_100 ?_
                refine wq_dup rfl dX11_readsType_101 ?_
                refine wq_getI fk_X11_183 tT_343 (fun _ _ _ => rfl) dX11_readsType_102 ?_
                refine wq_iconst (z := 1) (zlit rfl) dX11_readsType_105 ?_
                refine wq_iadd q58.1 dX11_readsType_106 ?_
                refine wq_putI fk_X11_183 tT_343 rfl rfl dX11_readsType_107 ?_
                refine wq_toph (fun h60 e61 => ?_)
                have sh60 : zSh h60 := zSh_of e61 hS59
                refine wq_aload_n 0 rfl rfl dX11_readsType_110 ?_
                refine wq_iload_n 1 rfl rfl dX11_readsType_111 ?_
                refine wq_putI fk_X11_186 tT_343 rfl rfl dX11_readsType_112 ?_
                refine wq_toph (fun h62 e63 => ?_)
                have sh62 : zSh h62 := zSh_of e63 sh60
                refine wq_iconst (z := 0) (zlit rfl) dX11_readsType_115 ?_
                exact wp_zret (Or.inl rfl) rfl dX11_readsType_116 ((q58.2 h60 e61) h62 e63)
          · refine wq_aload_n 0 rfl rfl dX11_readsType_43 ?_
            refine wq_iload_n 1 rfl rfl dX11_readsType_44 ?_
            refine wq_iload_n 2 rfl rfl dX11_readsType_45 ?_
            refine wq_bipush (z := 120) (zlit rfl) rfl dX11_readsType_46 ?_
            refine wq_icmp_ne 55 rfl dX11_readsType_48 (fun c64 => ?_) (fun c64 => ?_)
            · refine wq_iload_n 2 rfl rfl dX11_readsType_55 ?_
              refine wq_bipush (z := 115) (zlit rfl) rfl dX11_readsType_56 ?_
              refine wq_icmp_ne 65 rfl dX11_readsType_58 (fun c65 => ?_) (fun c65 => ?_)
              · refine wq_iconst (z := 4) (zlit rfl) dX11_readsType_65 ?_
                refine wN_V (As := [vI p1, vI 4]) vm_X11_readsCheck lk_X11_179 tT_343 rfl rfl (Nat.le_of_ble_eq_true rfl) (Nat.le_of_ble_eq_true rfl) (d' := d - 1) (by omega) dX11_readsType_66 (((((((q3.2 c5).1 c10).2 c11).2 c26).2 c41).1 c64).1 c65) (fun v9 h67 q68 => ?_)
                obtain ⟨rfl, hS69, q68⟩ := q68
                refine wq_st (st' := []) rfl ?_
                refine wq_goto 125 rfl dX11_readsType_69 ?_
                refine wq_iconst (z := 1) (zlit rfl) dX11_readsType_125 ?_
                exact wp_zret (Or.inr rfl) rfl dX11_readsType_126 q68
              · refine wq_iconst (z := 3) (zlit rfl) dX11_readsType_61 ?_
                refine wq_goto 66 rfl dX11_readsType_62 ?_
                refine wN_V (As := [vI p1, vI 3]) vm_X11_readsCheck lk_X11_179 tT_343 rfl rfl (Nat.le_of_ble_eq_true rfl) (Nat.le_of_ble_eq_true rfl) (d' := d - 1) (by omega) dX11_readsType_66 (((((((q3.2 c5).1 c10).2 c11).2 c26).2 c41).1 c64).2 c65) (fun v9 h71 q72 => ?_)
                obtain ⟨rfl, hS73, q72⟩ := q72
                refine wq_st (st' := []) rfl ?_
                refine wq_goto 125 rfl dX11_readsType_69 ?_
                refine wq_iconst (z := 1) (zlit rfl) dX11_readsType_125 ?_
                exact wp_zret (Or.inr rfl) rfl dX11_readsType_126 q72
            · refine wq_iconst (z := 2) (zlit rfl) dX11_readsType_51 ?_
              refine wq_goto 66 rfl dX11_readsType_52 ?_
              refine wN_V (As := [vI p1, vI 2]) vm_X11_readsCheck lk_X11_179 tT_343 rfl rfl (Nat.le_of_ble_eq_true rfl) (Nat.le_of_ble_eq_true rfl) (d' := d - 1) (by omega) dX11_readsType_66 ((((((q3.2 c5).1 c10).2 c11).2 c26).2 c41).2 c64) (fun v9 h75 q76 => ?_)
              obtain ⟨rfl, hS77, q76⟩ := q76
              refine wq_st (st' := []) rfl ?_
              refine wq_goto 125 rfl dX11_readsType_69 ?_
              refine wq_iconst (z := 1) (zlit rfl) dX11_readsType_125 ?_
              exact wp_zret (Or.inr rfl) rfl dX11_readsType_126 q76
    · refine wq_aload_n 0 rfl rfl dX11_readsType_17 ?_
      refine wq_iload_n 1 rfl rfl dX11_readsType_18 ?_
      refine wN_V (As := [vI p1]) vm_X11_readsInteger lk_X11_176 tT_343 rfl rfl (Nat.le_of_ble_eq_true rfl) (Nat.le_of_ble_eq_true rfl) (d' := d - 1) (by omega) dX11_readsType_19 ((q3.2 c5).2 c10) (fun v9 h79 q80 => ?_)
      obtain ⟨rfl, hS81, q80⟩ := q80
      refine wq_st (st' := []) rfl ?_
      refine wq_goto 125 rfl dX11_readsType_22 ?_
      refine wq_iconst (z := 1) (zlit rfl) dX11_readsType_125 ?_
      exact wp_zret (Or.inr rfl) rfl dX11_readsType_126 q80
theorem dX11_readsItem_0 : decode cX11_readsItem 0 = .ok (.aload_n 0, 1) := by decide +kernel
theorem dX11_readsItem_1 : decode cX11_readsItem 1 = .ok (.getfield 34, 3) := by decide +kernel
theorem dX11_readsItem_4 : decode cX11_readsItem 4 = .ok (.iconst 4, 1) := by decide +kernel
theorem dX11_readsItem_5 : decode cX11_readsItem 5 = .ok (.iaload, 1) := by decide +kernel
theorem dX11_readsItem_6 : decode cX11_readsItem 6 = .ok (.istore_n 1, 1) := by decide +kernel
theorem dX11_readsItem_7 : decode cX11_readsItem 7 = .ok (.aload_n 0, 1) := by decide +kernel
theorem dX11_readsItem_8 : decode cX11_readsItem 8 = .ok (.invokevirtual 104, 3) := by decide +kernel
theorem dX11_readsItem_11 : decode cX11_readsItem 11 = .ok (.istore_n 2, 1) := by decide +kernel
theorem dX11_readsItem_12 : decode cX11_readsItem 12 = .ok (.iload_n 1, 1) := by decide +kernel
theorem dX11_readsItem_13 : decode cX11_readsItem 13 = .ok (.bipush 24, 2) := by decide +kernel
theorem dX11_readsItem_15 : decode cX11_readsItem 15 = .ok (.if_icmp .eq 35, 3) := by decide +kernel
theorem dX11_readsItem_18 : decode cX11_readsItem 18 = .ok (.iload_n 2, 1) := by decide +kernel
theorem dX11_readsItem_19 : decode cX11_readsItem 19 = .ok (.bipush 63, 2) := by decide +kernel
theorem dX11_readsItem_21 : decode cX11_readsItem 21 = .ok (.if_icmp .eq 38, 3) := by decide +kernel
theorem dX11_readsItem_24 : decode cX11_readsItem 24 = .ok (.iload_n 2, 1) := by decide +kernel
theorem dX11_readsItem_25 : decode cX11_readsItem 25 = .ok (.bipush 46, 2) := by decide +kernel
theorem dX11_readsItem_27 : decode cX11_readsItem 27 = .ok (.if_icmp .eq 32, 3) := by decide +kernel
theorem dX11_readsItem_30 : decode cX11_readsItem 30 = .ok (.iload_n 2, 1) := by decide +kernel
theorem dX11_readsItem_31 : decode cX11_readsItem 31 = .ok (.bipush 64, 2) := by decide +kernel
theorem dX11_readsItem_33 : decode cX11_readsItem 33 = .ok (.if_icmp .eq 26, 3) := by decide +kernel
theorem dX11_readsItem_36 : decode cX11_readsItem 36 = .ok (.iload_n 2, 1) := by decide +kernel
theorem dX11_readsItem_37 : decode cX11_readsItem 37 = .ok (.i2l, 1) := by decide +kernel
theorem dX11_readsItem_38 : decode cX11_readsItem 38 = .ok (.ldc2_w 135, 3) := by decide +kernel
theorem dX11_readsItem_41 : decode cX11_readsItem 41 = .ok (.ldc2_w 137, 3) := by decide +kernel
theorem dX11_readsItem_44 : decode cX11_readsItem 44 = .ok (.invokestatic 91, 3) := by decide +kernel
theorem dX11_readsItem_47 : decode cX11_readsItem 47 = .ok (.ifCond .ne 12, 3) := by decide +kernel
theorem dX11_readsItem_50 : decode cX11_readsItem 50 = .ok (.aload_n 0, 1) := by decide +kernel
theorem dX11_readsItem_51 : decode cX11_readsItem 51 = .ok (.aload_n 0, 1) := by decide +kernel
theorem dX11_readsItem_52 : decode cX11_readsItem 52 = .ok (.getfield 101, 3) := by decide +kernel
theorem dX11_readsItem_55 : decode cX11_readsItem 55 = .ok (.invokevirtual 118, 3) := by decide +kernel
theorem dX11_readsItem_58 : decode cX11_readsItem 58 = .ok (.return_, 1) := by decide +kernel
theorem dX11_readsItem_59 : decode cX11_readsItem 59 = .ok (.iconst 0, 1) := by decide +kernel
theorem dX11_readsItem_60 : decode cX11_readsItem 60 = .ok (.istore_n 3, 1) := by decide +kernel
theorem dX11_readsItem_61 : decode cX11_readsItem 61 = .ok (.iload_n 3, 1) := by decide +kernel
theorem dX11_readsItem_62 : decode cX11_readsItem 62 = .ok (.bipush 14, 2) := by decide +kernel
theorem dX11_readsItem_64 : decode cX11_readsItem 64 = .ok (.if_icmp .ge 16, 3) := by decide +kernel
theorem dX11_readsItem_67 : decode cX11_readsItem 67 = .ok (.aload_n 0, 1) := by decide +kernel
theorem dX11_readsItem_68 : decode cX11_readsItem 68 = .ok (.iload_n 1, 1) := by decide +kernel
theorem dX11_readsItem_69 : decode cX11_readsItem 69 = .ok (.iload_n 3, 1) := by decide +kernel
theorem dX11_readsItem_70 : decode cX11_readsItem 70 = .ok (.iconst 0, 1) := by decide +kernel
theorem dX11_readsItem_71 : decode cX11_readsItem 71 = .ok (.invokevirtual 163, 3) := by decide +kernel
theorem dX11_readsItem_74 : decode cX11_readsItem 74 = .ok (.iinc 3 1, 3) := by decide +kernel
theorem dX11_readsItem_77 : decode cX11_readsItem 77 = .ok (.goto (-16), 3) := by decide +kernel
theorem dX11_readsItem_80 : decode cX11_readsItem 80 = .ok (.aload_n 0, 1) := by decide +kernel
theorem dX11_readsItem_81 : decode cX11_readsItem 81 = .ok (.iload_n 1, 1) := by decide +kernel
theorem dX11_readsItem_82 : decode cX11_readsItem 82 = .ok (.iconst 2, 1) := by decide +kernel
theorem dX11_readsItem_83 : decode cX11_readsItem 83 = .ok (.iconst (-1), 1) := by decide +kernel
theorem dX11_readsItem_84 : decode cX11_readsItem 84 = .ok (.invokevirtual 163, 3) := by decide +kernel
theorem dX11_readsItem_87 : decode cX11_readsItem 87 = .ok (.aload_n 0, 1) := by decide +kernel
theorem dX11_readsItem_88 : decode cX11_readsItem 88 = .ok (.iload_n 1, 1) := by decide +kernel
theorem dX11_readsItem_89 : decode cX11_readsItem 89 = .ok (.bipush 9, 2) := by decide +kernel
theorem dX11_readsItem_91 : decode cX11_readsItem 91 = .ok (.iload_n 1, 1) := by decide +kernel
theorem dX11_readsItem_92 : decode cX11_readsItem 92 = .ok (.iconst 1, 1) := by decide +kernel
theorem dX11_readsItem_93 : decode cX11_readsItem 93 = .ok (.iadd, 1) := by decide +kernel
theorem dX11_readsItem_94 : decode cX11_readsItem 94 = .ok (.invokevirtual 163, 3) := by decide +kernel
theorem dX11_readsItem_97 : decode cX11_readsItem 97 = .ok (.aload_n 0, 1) := by decide +kernel
theorem dX11_readsItem_98 : decode cX11_readsItem 98 = .ok (.iload_n 1, 1) := by decide +kernel
theorem dX11_readsItem_99 : decode cX11_readsItem 99 = .ok (.bipush 13, 2) := by decide +kernel
theorem dX11_readsItem_101 : decode cX11_readsItem 101 = .ok (.aload_n 0, 1) := by decide +kernel
theorem dX11_readsItem_102 : decode cX11_readsItem 102 = .ok (.getfield 186, 3) := by decide +kernel
theorem dX11_readsItem_105 : decode cX11_readsItem 105 = .ok (.invokevirtual 163, 3) := by decide +kernel
theorem dX11_readsItem_108 : decode cX11_readsItem 108 = .ok (.aload_n 0, 1) := by decide +kernel
theorem dX11_readsItem_109 : decode cX11_readsItem 109 = .ok (.getfield 34, 3) := by decide +kernel
theorem dX11_readsItem_112 : decode cX11_readsItem 112 = .ok (.iconst 4, 1) := by decide +kernel
theorem dX11_readsItem_113 : decode cX11_readsItem 113 = .ok (.dup2, 1) := by decide +kernel
theorem dX11_readsItem_114 : decode cX11_readsItem 114 = .ok (.iaload, 1) := by decide +kernel
theorem dX11_readsItem_115 : decode cX11_readsItem 115 = .ok (.iconst 1, 1) := by decide +kernel
theorem dX11_readsItem_116 : decode cX11_readsItem 116 = .ok (.iadd, 1) := by decide +kernel
theorem dX11_readsItem_117 : decode cX11_readsItem 117 = .ok (.iastore, 1) := by decide +kernel
theorem dX11_readsItem_118 : decode cX11_readsItem 118 = .ok (.aload_n 0, 1) := by decide +kernel
theorem dX11_readsItem_119 : decode cX11_readsItem 119 = .ok (.bipush 63, 2) := by decide +kernel
theorem dX11_readsItem_121 : decode cX11_readsItem 121 = .ok (.invokevirtual 114, 3) := by decide +kernel
theorem dX11_readsItem_124 : decode cX11_readsItem 124 = .ok (.ifCond .eq 46, 3) := by decide +kernel
theorem dX11_readsItem_127 : decode cX11_readsItem 127 = .ok (.aload_n 0, 1) := by decide +kernel
theorem dX11_readsItem_128 : decode cX11_readsItem 128 = .ok (.iload_n 1, 1) := by decide +kernel
theorem dX11_readsItem_129 : decode cX11_readsItem 129 = .ok (.invokevirtual 159, 3) := by decide +kernel
theorem dX11_readsItem_132 : decode cX11_readsItem 132 = .ok (.istore_n 3, 1) := by decide +kernel
theorem dX11_readsItem_133 : decode cX11_readsItem 133 = .ok (.aload_n 0, 1) := by decide +kernel
theorem dX11_readsItem_134 : decode cX11_readsItem 134 = .ok (.bipush 61, 2) := by decide +kernel
theorem dX11_readsItem_136 : decode cX11_readsItem 136 = .ok (.invokevirtual 167, 3) := by decide +kernel
theorem dX11_readsItem_139 : decode cX11_readsItem 139 = .ok (.aload_n 0, 1) := by decide +kernel
theorem dX11_readsItem_140 : decode cX11_readsItem 140 = .ok (.iload_n 1, 1) := by decide +kernel
theorem dX11_readsItem_141 : decode cX11_readsItem 141 = .ok (.iconst 2, 1) := by decide +kernel
theorem dX11_readsItem_142 : decode cX11_readsItem 142 = .ok (.iload_n 3, 1) := by decide +kernel
theorem dX11_readsItem_143 : decode cX11_readsItem 143 = .ok (.invokevirtual 163, 3) := by decide +kernel
theorem dX11_readsItem_146 : decode cX11_readsItem 146 = .ok (.aload_n 0, 1) := by decide +kernel
theorem dX11_readsItem_147 : decode cX11_readsItem 147 = .ok (.iload_n 1, 1) := by decide +kernel
theorem dX11_readsItem_148 : decode cX11_readsItem 148 = .ok (.iconst 3, 1) := by decide +kernel
theorem dX11_readsItem_149 : decode cX11_readsItem 149 = .ok (.aload_n 0, 1) := by decide +kernel
theorem dX11_readsItem_150 : decode cX11_readsItem 150 = .ok (.getfield 108, 3) := by decide +kernel
theorem dX11_readsItem_153 : decode cX11_readsItem 153 = .ok (.sipush (-1009), 3) := by decide +kernel
theorem dX11_readsItem_156 : decode cX11_readsItem 156 = .ok (.if_icmp .ne 10, 3) := by decide +kernel
theorem dX11_readsItem_159 : decode cX11_readsItem 159 = .ok (.aload_n 0, 1) := by decide +kernel
theorem dX11_readsItem_160 : decode cX11_readsItem 160 = .ok (.invokevirtual 156, 3) := by decide +kernel
theorem dX11_readsItem_163 : decode cX11_readsItem 163 = .ok (.goto 4, 3) := by decide +kernel
theorem dX11_readsItem_166 : decode cX11_readsItem 166 = .ok (.iconst 0, 1) := by decide +kernel
theorem dX11_readsItem_167 : decode cX11_readsItem 167 = .ok (.invokevirtual 163, 3) := by decide +kernel
theorem dX11_readsItem_170 : decode cX11_readsItem 170 = .ok (.iconst 1, 1) := by decide +kernel
theorem dX11_readsItem_171 : decode cX11_readsItem 171 = .ok (.istore_n 3, 1) := by decide +kernel
theorem dX11_readsItem_172 : decode cX11_readsItem 172 = .ok (.aload_n 0, 1) := by decide +kernel
theorem dX11_readsItem_173 : decode cX11_readsItem 173 = .ok (.bipush 46, 2) := by decide +kernel
theorem dX11_readsItem_175 : decode cX11_readsItem 175 = .ok (.invokevirtual 114, 3) := by decide +kernel
theorem dX11_readsItem_178 : decode cX11_readsItem 178 = .ok (.ifCond .eq 23, 3) := by decide +kernel
theorem dX11_readsItem_181 : decode cX11_readsItem 181 = .ok (.aload_n 0, 1) := by decide +kernel
theorem dX11_readsItem_182 : decode cX11_readsItem 182 = .ok (.iload_n 1, 1) := by decide +kernel
theorem dX11_readsItem_183 : decode cX11_readsItem 183 = .ok (.iconst 0, 1) := by decide +kernel
theorem dX11_readsItem_184 : decode cX11_readsItem 184 = .ok (.iconst 3, 1) := by decide +kernel
theorem dX11_readsItem_185 : decode cX11_readsItem 185 = .ok (.invokevirtual 163, 3) := by decide +kernel
theorem dX11_readsItem_188 : decode cX11_readsItem 188 = .ok (.aload_n 0, 1) := by decide +kernel
theorem dX11_readsItem_189 : decode cX11_readsItem 189 = .ok (.iload_n 1, 1) := by decide +kernel
theorem dX11_readsItem_190 : decode cX11_readsItem 190 = .ok (.iconst 4, 1) := by decide +kernel
theorem dX11_readsItem_191 : decode cX11_readsItem 191 = .ok (.aload_n 0, 1) := by decide +kernel
theorem dX11_readsItem_192 : decode cX11_readsItem 192 = .ok (.invokevirtual 156, 3) := by decide +kernel
theorem dX11_readsItem_195 : decode cX11_readsItem 195 = .ok (.invokevirtual 163, 3) := by decide +kernel
theorem dX11_readsItem_198 : decode cX11_readsItem 198 = .ok (.goto 65, 3) := by decide +kernel
theorem dX11_readsItem_201 : decode cX11_readsItem 201 = .ok (.aload_n 0, 1) := by decide +kernel
theorem dX11_readsItem_202 : decode cX11_readsItem 202 = .ok (.bipush 64, 2) := by decide +kernel
theorem dX11_readsItem_204 : decode cX11_readsItem 204 = .ok (.invokevirtual 114, 3) := by decide +kernel
theorem dX11_readsItem_207 : decode cX11_readsItem 207 = .ok (.ifCond .eq 40, 3) := by decide +kernel
theorem dX11_readsItem_210 : decode cX11_readsItem 210 = .ok (.aload_n 0, 1) := by decide +kernel
theorem dX11_readsItem_211 : decode cX11_readsItem 211 = .ok (.iload_n 1, 1) := by decide +kernel
theorem dX11_readsItem_212 : decode cX11_readsItem 212 = .ok (.iconst 0, 1) := by decide +kernel
theorem dX11_readsItem_213 : decode cX11_readsItem 213 = .ok (.iconst 4, 1) := by decide +kernel
theorem dX11_readsItem_214 : decode cX11_readsItem 214 = .ok (.invokevirtual 163, 3) := by decide +kernel
theorem dX11_readsItem_217 : decode cX11_readsItem 217 = .ok (.aload_n 0, 1) := by decide +kernel
theorem dX11_readsItem_218 : decode cX11_readsItem 218 = .ok (.invokevirtual 156, 3) := by decide +kernel
theorem dX11_readsItem_221 : decode cX11_readsItem 221 = .ok (.istore 4, 2) := by decide +kernel
theorem dX11_readsItem_223 : decode cX11_readsItem 223 = .ok (.aload_n 0, 1) := by decide +kernel
theorem dX11_readsItem_224 : decode cX11_readsItem 224 = .ok (.iload_n 1, 1) := by decide +kernel
theorem dX11_readsItem_225 : decode cX11_readsItem 225 = .ok (.iconst 4, 1) := by decide +kernel
theorem dX11_readsItem_226 : decode cX11_readsItem 226 = .ok (.iload 4, 2) := by decide +kernel
theorem dX11_readsItem_228 : decode cX11_readsItem 228 = .ok (.invokevirtual 163, 3) := by decide +kernel
theorem dX11_readsItem_231 : decode cX11_readsItem 231 = .ok (.iload 4, 2) := by decide +kernel
theorem dX11_readsItem_233 : decode cX11_readsItem 233 = .ok (.ifCond .ne 11, 3) := by decide +kernel
theorem dX11_readsItem_236 : decode cX11_readsItem 236 = .ok (.aload_n 0, 1) := by decide +kernel
theorem dX11_readsItem_237 : decode cX11_readsItem 237 = .ok (.aload_n 0, 1) := by decide +kernel
theorem dX11_readsItem_238 : decode cX11_readsItem 238 = .ok (.getfield 122, 3) := by decide +kernel
theorem dX11_readsItem_241 : decode cX11_readsItem 241 = .ok (.invokevirtual 118, 3) := by decide +kernel
theorem dX11_readsItem_244 : decode cX11_readsItem 244 = .ok (.goto 19, 3) := by decide +kernel
theorem dX11_readsItem_247 : decode cX11_readsItem 247 = .ok (.aload_n 0, 1) := by decide +kernel
theorem dX11_readsItem_248 : decode cX11_readsItem 248 = .ok (.getfield 108, 3) := by decide +kernel
theorem dX11_readsItem_251 : decode cX11_readsItem 251 = .ok (.sipush (-1009), 3) := by decide +kernel
theorem dX11_readsItem_254 : decode cX11_readsItem 254 = .ok (.if_icmp .ne 9, 3) := by decide +kernel
theorem dX11_readsItem_257 : decode cX11_readsItem 257 = .ok (.aload_n 0, 1) := by decide +kernel
theorem dX11_readsItem_258 : decode cX11_readsItem 258 = .ok (.iload_n 1, 1) := by decide +kernel
theorem dX11_readsItem_259 : decode cX11_readsItem 259 = .ok (.invokevirtual 189, 3) := by decide +kernel
theorem dX11_readsItem_262 : decode cX11_readsItem 262 = .ok (.istore_n 3, 1) := by decide +kernel
theorem dX11_readsItem_263 : decode cX11_readsItem 263 = .ok (.iload_n 3, 1) := by decide +kernel
theorem dX11_readsItem_264 : decode cX11_readsItem 264 = .ok (.ifCond .eq 9, 3) := by decide +kernel
theorem dX11_readsItem_267 : decode cX11_readsItem 267 = .ok (.aload_n 0, 1) := by decide +kernel
theorem dX11_readsItem_268 : decode cX11_readsItem 268 = .ok (.bipush 59, 2) := by decide +kernel
theorem dX11_readsItem_270 : decode cX11_readsItem 270 = .ok (.invokevirtual 167, 3) := by decide +kernel
theorem dX11_readsItem_273 : decode cX11_readsItem 273 = .ok (.return_, 1) := by decide +kernel
theorem vc_X11_readsItem_0 {G : zG} {d : Nat} {Q : Option zV → zHp → Prop}  (h : zHp) (hS : zSh h) (hd : 9 ≤ d) (I_61 : Int → Int → Int → zHp → Prop) (hI_61 : ∀ (y1 : Int) (y2 : Int) (y3 : Int) (h' : zHp), I_61 y1 y2 y3 h' → wpN G d M_X11_readsItem 61 [(0, vR 343), (1, vI y1), (2, vI y2), (3, vI y3)] [] h' Q) 
    (hv : (∀ x1 : Int, x1 = (gI h 352 4) → (wpN G (d - 1) M_X11_next 0 (zar 0 [vR 343]) [] h (qI (fun z3 h4 => zSh h4 ∧ ((x1 = 24 → (wpN G (d - 1) M_X11_faults 0 (zar 0 [vR 343, vI (gI h4 343 15)]) [] h4 (qV (fun h9 => zSh h9 ∧ Q none h9)))) ∧ (x1 ≠ 24 → ((z3 = 63 → (zSh h4 → I_61 x1 z3 0 h4)) ∧ (z3 ≠ 63 → ((z3 = 46 → (zSh h4 → I_61 x1 z3 0 h4)) ∧ (z3 ≠ 46 → ((z3 = 64 → (zSh h4 → I_61 x1 z3 0 h4)) ∧ (z3 ≠ 64 → (wpN G (d - 1) M_X11_in 0 (zar 0 [vL z3, vL 97, vL 122]) [] h4 (qI (fun z15 h16 => zSh h16 ∧ ((z15 ≠ 0 → (zSh h16 → I_61 x1 z3 0 h16)) ∧ (z15 = 0 → (wpN G (d - 1) M_X11_faults 0 (zar 0 [vR 343, vI (gI h16 343 15)]) [] h16 (qV (fun h21 => zSh h21 ∧ Q none h21))))))))))))))))))))) : wpN G d M_X11_readsItem 0 [(0, vR 343)] [] h Q := by
  refine wq_aload_n 0 rfl rfl dX11_readsItem_0 ?_
  refine wq_getR fk_X11_34 tT_343 (fun _ _ _ => rfl) (sh_11_14 hS) (by decide) dX11_readsItem_1 ?_
  refine wq_iconst (z := 4) (zlit rfl) dX11_readsItem_4 ?_
  refine wq_iald tT_352 (by decide) (by decide) dX11_readsItem_5 ?_
  refine wq_topI (fun x1 e2 => ?_)
  refine wq_istore_n (ls' := [(0, vR 343), (1, vI x1)]) rfl (by decide) rfl dX11_readsItem_6 ?_
  refine wq_aload_n 0 rfl rfl dX11_readsItem_7 ?_
  refine wN_V (As := []) vm_X11_next lk_X11_104 tT_343 rfl rfl (Nat.le_of_ble_eq_true rfl) (Nat.le_of_ble_eq_true rfl) (d' := d - 1) (by omega) dX11_readsItem_8 (hv x1 e2) (fun v9 h4 q5 => ?_)
  obtain ⟨z3, rfl, hS6, q5⟩ := q5
  refine wq_st (st' := [vI z3]) rfl ?_
  refine wq_istore_n (ls' := [(0, vR 343), (1, vI x1), (2, vI z3)]) rfl (by decide) rfl dX11_readsItem_11 ?_
  refine wq_iload_n 1 rfl rfl dX11_readsItem_12 ?_
  refine wq_bipush (z := 24) (zlit rfl) rfl dX11_readsItem_13 ?_
  refine wq_icmp_eq 50 rfl dX11_readsItem_15 (fun c7 => ?_) (fun c7 => ?_)
  · refine wq_aload_n 0 rfl rfl dX11_readsItem_50 ?_
    refine wq_aload_n 0 rfl rfl dX11_readsItem_51 ?_
    refine wq_getI fk_X11_101 tT_343 (fun _ _ _ => rfl) dX11_readsItem_52 ?_
    refine wN_V (As := [vI (gI h4 343 15)]) vm_X11_faults lk_X11_118 tT_343 rfl rfl (Nat.le_of_ble_eq_true rfl) (Nat.le_of_ble_eq_true rfl) (d' := d - 1) (by omega) dX11_readsItem_55 (q5.1 c7) (fun v9 h9 q10 => ?_)
    obtain ⟨rfl, hS11, q10⟩ := q10
    refine wq_st (st' := []) rfl ?_
    exact wp_vret rfl dX11_readsItem_58 q10
  · refine wq_iload_n 2 rfl rfl dX11_readsItem_18 ?_
    refine wq_bipush (z := 63) (zlit rfl) rfl dX11_readsItem_19 ?_
    refine wq_icmp_eq 59 rfl dX11_readsItem_21 (fun c12 => ?_) (fun c12 => ?_)
    · refine wq_iconst (z := 0) (zlit rfl) dX11_readsItem_59 ?_
      refine wq_istore_n (ls' := [(0, vR 343), (1, vI x1), (2, vI z3), (3, vI 0)]) rfl (by decide) rfl dX11_readsItem_60 ?_
      exact wq_pick [0, 1, 2, 3] rfl (hI_61 x1 z3 0 h4 (((q5.2 c7).1 c12) hS6))
    · refine wq_iload_n 2 rfl rfl dX11_readsItem_24 ?_
      refine wq_bipush (z := 46) (zlit rfl) rfl dX11_readsItem_25 ?_
      refine wq_icmp_eq 59 rfl dX11_readsItem_27 (fun c13 => ?_) (fun c13 => ?_)
      · refine wq_iconst (z := 0) (zlit rfl) dX11_readsItem_59 ?_
        refine wq_istore_n (ls' := [(0, vR 343), (1, vI x1), (2, vI z3), (3, vI 0)]) rfl (by decide) rfl dX11_readsItem_60 ?_
        exact wq_pick [0, 1, 2, 3] rfl (hI_61 x1 z3 0 h4 ((((q5.2 c7).2 c12).1 c13) hS6))
      · refine wq_iload_n 2 rfl rfl dX11_readsItem_30 ?_
        refine wq_bipush (z := 64) (zlit rfl) rfl dX11_readsItem_31 ?_
        refine wq_icmp_eq 59 rfl dX11_readsItem_33 (fun c14 => ?_) (fun c14 => ?_)
        · refine wq_iconst (z := 0) (zlit rfl) dX11_readsItem_59 ?_
          refine wq_istore_n (ls' := [(0, vR 343), (1, vI x1), (2, vI z3), (3, vI 0)]) rfl (by decide) rfl dX11_readsItem_60 ?_
          exact wq_pick [0, 1, 2, 3] rfl (hI_61 x1 z3 0 h4 (((((q5.2 c7).2 c12).2 c13).1 c14) hS6))
        · refine wq_iload_n 2 rfl rfl dX11_readsItem_36 ?_
          refine wq_i2l dX11_readsItem_37 ?_
          refine wq_ldc2_w (z := 97) (zlitL rfl) kc_X11_135 dX11_readsItem_38 ?_
          refine wq_ldc2_w (z := 122) (zlitL rfl) kc_X11_137 dX11_readsItem_41 ?_
          refine wN_S (As := [vL z3, vL 97, vL 122]) md_X11_in ms_X11_in lk_X11_91 rfl rfl (Nat.le_of_ble_eq_true rfl) (Nat.le_of_ble_eq_true rfl) (d' := d - 1) (by omega) dX11_readsItem_44 ((((q5.2 c7).2 c12).2 c13).2 c14) (fun v9 h16 q17 => ?_)
          obtain ⟨z15, rfl, hS18, q17⟩ := q17
          refine wq_st (st' := [vI z15]) rfl ?_
          refine wq_if_ne 59 rfl dX11_readsItem_47 (fun c19 => ?_) (fun c19 => ?_)
          · refine wq_iconst (z := 0) (zlit rfl) dX11_readsItem_59 ?_
            refine wq_istore_n (ls' := [(0, vR 343), (1, vI x1), (2, vI z3), (3, vI 0)]) rfl (by decide) rfl dX11_readsItem_60 ?_
            exact wq_pick [0, 1, 2, 3] rfl (hI_61 x1 z3 0 h16 ((q17.1 c19) hS18))
          · refine wq_aload_n 0 rfl rfl dX11_readsItem_50 ?_
            refine wq_aload_n 0 rfl rfl dX11_readsItem_51 ?_
            refine wq_getI fk_X11_101 tT_343 (fun _ _ _ => rfl) dX11_readsItem_52 ?_
            refine wN_V (As := [vI (gI h16 343 15)]) vm_X11_faults lk_X11_118 tT_343 rfl rfl (Nat.le_of_ble_eq_true rfl) (Nat.le_of_ble_eq_true rfl) (d' := d - 1) (by omega) dX11_readsItem_55 (q17.2 c19) (fun v9 h21 q22 => ?_)
            obtain ⟨rfl, hS23, q22⟩ := q22
            refine wq_st (st' := []) rfl ?_
            exact wp_vret rfl dX11_readsItem_58 q22
theorem vc_X11_readsItem_61 {G : zG} {d : Nat} {Q : Option zV → zHp → Prop} (y1 : Int) (y2 : Int) (y3 : Int) (h : zHp) (hS : zSh h) (hd : 9 ≤ d) (I_61 : Int → Int → Int → zHp → Prop) (hI_61 : ∀ (y1 : Int) (y2 : Int) (y3 : Int) (h' : zHp), I_61 y1 y2 y3 h' → wpN G d M_X11_readsItem 61 [(0, vR 343), (1, vI y1), (2, vI y2), (3, vI y3)] [] h' Q) 
    (hv : ((14 ≤ y3 → (wpN G (d - 1) M_X11_writes 0 (zar 0 [vR 343, vI y1, vI 2, vI (-1)]) [] h (qV (fun h3 => zSh h3 ∧ ((-2147483648 ≤ y1 + 1 ∧ y1 + 1 ≤ 2147483647) ∧ (wpN G (d - 1) M_X11_writes 0 (zar 0 [vR 343, vI y1, vI 9, vI (y1 + 1)]) [] h3 (qV (fun h7 => zSh h7 ∧ (wpN G (d - 1) M_X11_writes 0 (zar 0 [vR 343, vI y1, vI 13, vI (gI h7 343 20)]) [] h7 (qV (fun h11 => zSh h11 ∧ ((-2147483648 ≤ (gI h11 352 4) + 1 ∧ (gI h11 352 4) + 1 ≤ 2147483647) ∧ (∀ h14 : zHp, h14 = sI h11 352 4 ((gI h11 352 4) + 1) → (wpN G (d - 1) M_X11_takes 0 (zar 0 [vR 343, vI 63]) [] h14 (qI (fun z16 h17 => zSh h17 ∧ ((z16 = 0 → (wpN G (d - 1) M_X11_takes 0 (zar 0 [vR 343, vI 46]) [] h17 (qI (fun z21 h22 => zSh h22 ∧ ((z21 = 0 → (wpN G (d - 1) M_X11_takes 0 (zar 0 [vR 343, vI 64]) [] h22 (qI (fun z26 h27 => zSh h27 ∧ ((z26 = 0 → (((gI h27 343 16) ≠ (-1009) → (wpN G (d - 1) M_X11_expects 0 (zar 0 [vR 343, vI 59]) [] h27 (qV (fun h34 => zSh h34 ∧ Q none h34)))) ∧ ((gI h27 343 16) = (-1009) → (wpN G (d - 1) M_X11_readsNamed 0 (zar 0 [vR 343, vI y1]) [] h27 (qI (fun z37 h38 => zSh h38 ∧ ((z37 = 0 → Q none h38) ∧ (z37 ≠ 0 → (wpN G (d - 1) M_X11_expects 0 (zar 0 [vR 343, vI 59]) [] h38 (qV (fun h43 => zSh h43 ∧ Q none h43))))))))))) ∧ (z26 ≠ 0 → (wpN G (d - 1) M_X11_writes 0 (zar 0 [vR 343, vI y1, vI 0, vI 4]) [] h27 (qV (fun h47 => zSh h47 ∧ (wpN G (d - 1) M_X11_number 0 (zar 0 [vR 343]) [] h47 (qI (fun z50 h51 => zSh h51 ∧ (wpN G (d - 1) M_X11_writes 0 (zar 0 [vR 343, vI y1, vI 4, vI z50]) [] h51 (qV (fun h55 => zSh h55 ∧ ((z50 ≠ 0 → (wpN G (d - 1) M_X11_expects 0 (zar 0 [vR 343, vI 59]) [] h55 (qV (fun h61 => zSh h61 ∧ Q none h61)))) ∧ (z50 = 0 → (wpN G (d - 1) M_X11_faults 0 (zar 0 [vR 343, vI (gI h55 343 17)]) [] h55 (qV (fun h65 => zSh h65 ∧ (wpN G (d - 1) M_X11_expects 0 (zar 0 [vR 343, vI 59]) [] h65 (qV (fun h70 => zSh h70 ∧ Q none h70))))))))))))))))))))))) ∧ (z21 ≠ 0 → (wpN G (d - 1) M_X11_writes 0 (zar 0 [vR 343, vI y1, vI 0, vI 3]) [] h22 (qV (fun h74 => zSh h74 ∧ (wpN G (d - 1) M_X11_number 0 (zar 0 [vR 343]) [] h74 (qI (fun z77 h78 => zSh h78 ∧ (wpN G (d - 1) M_X11_writes 0 (zar 0 [vR 343, vI y1, vI 4, vI z77]) [] h78 (qV (fun h82 => zSh h82 ∧ (wpN G (d - 1) M_X11_expects 0 (zar 0 [vR 343, vI 59]) [] h82 (qV (fun h87 => zSh h87 ∧ Q none h87)))))))))))))))))) ∧ (z16 ≠ 0 → (wpN G (d - 1) M_X11_integerNamed 0 (zar 0 [vR 343, vI y1]) [] h17 (qI (fun z90 h91 => zSh h91 ∧ (wpN G (d - 1) M_X11_expects 0 (zar 0 [vR 343, vI 61]) [] h91 (qV (fun h95 => zSh h95 ∧ (wpN G (d - 1) M_X11_writes 0 (zar 0 [vR 343, vI y1, vI 2, vI z90]) [] h95 (qV (fun h99 => zSh h99 ∧ (((gI h99 343 16) ≠ (-1009) → (wpN G (d - 1) M_X11_writes 0 (zar 0 [vR 343, vI y1, vI 3, vI 0]) [] h99 (qV (fun h104 => zSh h104 ∧ (wpN G (d - 1) M_X11_takes 0 (zar 0 [vR 343, vI 46]) [] h104 (qI (fun z107 h108 => zSh h108 ∧ ((z107 = 0 → (wpN G (d - 1) M_X11_takes 0 (zar 0 [vR 343, vI 64]) [] h108 (qI (fun z112 h113 => zSh h113 ∧ ((z112 = 0 → (((gI h113 343 16) ≠ (-1009) → (wpN G (d - 1) M_X11_expects 0 (zar 0 [vR 343, vI 59]) [] h113 (qV (fun h120 => zSh h120 ∧ Q none h120)))) ∧ ((gI h113 343 16) = (-1009) → (wpN G (d - 1) M_X11_readsNamed 0 (zar 0 [vR 343, vI y1]) [] h113 (qI (fun z123 h124 => zSh h124 ∧ ((z123 = 0 → Q none h124) ∧ (z123 ≠ 0 → (wpN G (d - 1) M_X11_expects 0 (zar 0 [vR 343, vI 59]) [] h124 (qV (fun h129 => zSh h129 ∧ Q none h129))))))))))) ∧ (z112 ≠ 0 → (wpN G (d - 1) M_X11_writes 0 (zar 0 [vR 343, vI y1, vI 0, vI 4]) [] h113 (qV (fun h133 => zSh h133 ∧ (wpN G (d - 1) M_X11_number 0 (zar 0 [vR 343]) [] h133 (qI (fun z136 h137 => zSh h137 ∧ (wpN G (d - 1) M_X11_writes 0 (zar 0 [vR 343, vI y1, vI 4, vI z136]) [] h137 (qV (fun h141 => zSh h141 ∧ ((z136 ≠ 0 → (wpN G (d - 1) M_X11_expects 0 (zar 0 [vR 343, vI 59]) [] h141 (qV (fun h147 => zSh h147 ∧ Q none h147)))) ∧ (z136 = 0 → (wpN G (d - 1) M_X11_faults 0 (zar 0 [vR 343, vI (gI h141 343 17)]) [] h141 (qV (fun h151 => zSh h151 ∧ (wpN G (d - 1) M_X11_expects 0 (zar 0 [vR 343, vI 59]) [] h151 (qV (fun h156 => zSh h156 ∧ Q none h156))))))))))))))))))))))) ∧ (z107 ≠ 0 → (wpN G (d - 1) M_X11_writes 0 (zar 0 [vR 343, vI y1, vI 0, vI 3]) [] h108 (qV (fun h160 => zSh h160 ∧ (wpN G (d - 1) M_X11_number 0 (zar 0 [vR 343]) [] h160 (qI (fun z163 h164 => zSh h164 ∧ (wpN G (d - 1) M_X11_writes 0 (zar 0 [vR 343, vI y1, vI 4, vI z163]) [] h164 (qV (fun h168 => zSh h168 ∧ (wpN G (d - 1) M_X11_expects 0 (zar 0 [vR 343, vI 59]) [] h168 (qV (fun h173 => zSh h173 ∧ Q none h173))))))))))))))))))))) ∧ ((gI h99 343 16) = (-1009) → (wpN G (d - 1) M_X11_number 0 (zar 0 [vR 343]) [] h99 (qI (fun z176 h177 => zSh h177 ∧ (wpN G (d - 1) M_X11_writes 0 (zar 0 [vR 343, vI y1, vI 3, vI z176]) [] h177 (qV (fun h181 => zSh h181 ∧ (wpN G (d - 1) M_X11_takes 0 (zar 0 [vR 343, vI 46]) [] h181 (qI (fun z184 h185 => zSh h185 ∧ ((z184 = 0 → (wpN G (d - 1) M_X11_takes 0 (zar 0 [vR 343, vI 64]) [] h185 (qI (fun z189 h190 => zSh h190 ∧ ((z189 = 0 → (((gI h190 343 16) ≠ (-1009) → (wpN G (d - 1) M_X11_expects 0 (zar 0 [vR 343, vI 59]) [] h190 (qV (fun h197 => zSh h197 ∧ Q none h197)))) ∧ ((gI h190 343 16) = (-1009) → (wpN G (d - 1) M_X11_readsNamed 0 (zar 0 [vR 343, vI y1]) [] h190 (qI (fun z200 h201 => zSh h201 ∧ ((z200 = 0 → Q none h201) ∧ (z200 ≠ 0 → (wpN G (d - 1) M_X11_expects 0 (zar 0 [vR 343, vI 59]) [] h201 (qV (fun h206 => zSh h206 ∧ Q none h206))))))))))) ∧ (z189 ≠ 0 → (wpN G (d - 1) M_X11_writes 0 (zar 0 [vR 343, vI y1, vI 0, vI 4]) [] h190 (qV (fun h210 => zSh h210 ∧ (wpN G (d - 1) M_X11_number 0 (zar 0 [vR 343]) [] h210 (qI (fun z213 h214 => zSh h214 ∧ (wpN G (d - 1) M_X11_writes 0 (zar 0 [vR 343, vI y1, vI 4, vI z213]) [] h214 (qV (fun h218 => zSh h218 ∧ ((z213 ≠ 0 → (wpN G (d - 1) M_X11_expects 0 (zar 0 [vR 343, vI 59]) [] h218 (qV (fun h224 => zSh h224 ∧ Q none h224)))) ∧ (z213 = 0 → (wpN G (d - 1) M_X11_faults 0 (zar 0 [vR 343, vI (gI h218 343 17)]) [] h218 (qV (fun h228 => zSh h228 ∧ (wpN G (d - 1) M_X11_expects 0 (zar 0 [vR 343, vI 59]) [] h228 (qV (fun h233 => zSh h233 ∧ Q none h233))))))))))))))))))))))) ∧ (z184 ≠ 0 → (wpN G (d - 1) M_X11_writes 0 (zar 0 [vR 343, vI y1, vI 0, vI 3]) [] h185 (qV (fun h237 => zSh h237 ∧ (wpN G (d - 1) M_X11_number 0 (zar 0 [vR 343]) [] h237 (qI (fun z240 h241 => zSh h241 ∧ (wpN G (d - 1) M_X11_writes 0 (zar 0 [vR 343, vI y1, vI 4, vI z240]) [] h241 (qV (fun h245 => zSh h245 ∧ (wpN G (d - 1) M_X11_expects 0 (zar 0 [vR 343, vI 59]) [] h245 (qV (fun h250 => zSh h250 ∧ Q none h250)))))))))))))))))))))))))))))))))))))))))))))))))))) ∧ (y3 < 14 → (wpN G (d - 1) M_X11_writes 0 (zar 0 [vR 343, vI y1, vI y3, vI 0]) [] h (qV (fun h254 => zSh h254 ∧ ((-2147483648 ≤ y3 + 1 ∧ y3 + 1 ≤ 2147483647) ∧ ∀ x257 : Int, x257 = y3 + 1 → (zSh h254 → I_61 y1 y2 x257 h254)))))))) : wpN G d M_X11_readsItem 61 [(0, vR 343), (1, vI y1), (2, vI y2), (3, vI y3)] [] h Q := by
  refine wq_iload_n 3 rfl rfl dX11_readsItem_61 ?_
  refine wq_bipush (z := 14) (zlit rfl) rfl dX11_readsItem_62 ?_
  refine wq_icmp_ge 80 rfl dX11_readsItem_64 (fun c1 => ?_) (fun c1 => ?_)
  · refine wq_aload_n 0 rfl rfl dX11_readsItem_80 ?_
    refine wq_iload_n 1 rfl rfl dX11_readsItem_81 ?_
    refine wq_iconst (z := 2) (zlit rfl) dX11_readsItem_82 ?_
    refine wq_iconst (z := -1) (zlit rfl) dX11_readsItem_83 ?_
    refine wN_V (As := [vI y1, vI 2, vI (-1)]) vm_X11_writes lk_X11_163 tT_343 rfl rfl (Nat.le_of_ble_eq_true rfl) (Nat.le_of_ble_eq_true rfl) (d' := d - 1) (by omega) dX11_readsItem_84 (hv.1 c1) (fun v9 h3 q4 => ?_)
    obtain ⟨rfl, hS5, q4⟩ := q4
    refine wq_st (st' := []) rfl ?_
    refine wq_aload_n 0 rfl rfl dX11_readsItem_87 ?_
    refine wq_iload_n 1 rfl rfl dX11_readsItem_88 ?_
    refine wq_bipush (z := 9) (zlit rfl) rfl dX11_readsItem_89 ?_
    refine wq_iload_n 1 rfl rfl dX11_readsItem_91 ?_
    refine wq_iconst (z := 1) (zlit rfl) dX11_readsItem_92 ?_
    refine wq_iadd q4.1 dX11_readsItem_93 ?_
    refine wN_V (As := [vI y1, vI 9, vI (y1 + 1)]) vm_X11_writes lk_X11_163 tT_343 rfl rfl (Nat.le_of_ble_eq_true rfl) (Nat.le_of_ble_eq_true rfl) (d' := d - 1) (by omega) dX11_readsItem_94 q4.2 (fun v9 h7 q8 => ?_)
    obtain ⟨rfl, hS9, q8⟩ := q8
    refine wq_st (st' := []) rfl ?_
    refine wq_aload_n 0 rfl rfl dX11_readsItem_97 ?_
    refine wq_iload_n 1 rfl rfl dX11_readsItem_98 ?_
    refine wq_bipush (z := 13) (zlit rfl) rfl dX11_readsItem_99 ?_
    refine wq_aload_n 0 rfl rfl dX11_readsItem_101 ?_
    refine wq_getI fk_X11_186 tT_343 (fun _ _ _ => rfl) dX11_readsItem_102 ?_
    refine wN_V (As := [vI y1, vI 13, vI (gI h7 343 20)]) vm_X11_writes lk_X11_163 tT_343 rfl rfl (Nat.le_of_ble_eq_true rfl) (Nat.le_of_ble_eq_true rfl) (d' := d - 1) (by omega) dX11_readsItem_105 q8 (fun v9 h11 q12 => ?_)
    obtain ⟨rfl, hS13, q12⟩ := q12
    refine wq_st (st' := []) rfl ?_
    refine wq_aload_n 0 rfl rfl dX11_readsItem_108 ?_
    refine wq_getR fk_X11_34 tT_343 (fun _ _ _ => rfl) (sh_11_14 hS13) (by decide) dX11_readsItem_109 ?_
    refine wq_iconst (z := 4) (zlit rfl) dX11_readsItem_112 ?_
    refine wq_dup2 rfl rfl dX11_readsItem_113 ?_
    refine wq_iald tT_352 (by decide) (by decide) dX11_readsItem_114 ?_
    refine wq_iconst (z := 1) (zlit rfl) dX11_readsItem_115 ?_
    refine wq_iadd q12.1 dX11_readsItem_116 ?_
    refine wq_iast tT_352 (by decide) (by decide) dX11_readsItem_117 ?_
    refine wq_toph (fun h14 e15 => ?_)
    have sh14 : zSh h14 := zSh_of e15 hS13
    refine wq_aload_n 0 rfl rfl dX11_readsItem_118 ?_
    refine wq_bipush (z := 63) (zlit rfl) rfl dX11_readsItem_119 ?_
    refine wN_V (As := [vI 63]) vm_X11_takes lk_X11_114 tT_343 rfl rfl (Nat.le_of_ble_eq_true rfl) (Nat.le_of_ble_eq_true rfl) (d' := d - 1) (by omega) dX11_readsItem_121 (q12.2 h14 e15) (fun v9 h17 q18 => ?_)
    obtain ⟨z16, rfl, hS19, q18⟩ := q18
    refine wq_st (st' := [vI z16]) rfl ?_
    refine wq_if_eq 170 rfl dX11_readsItem_124 (fun c20 => ?_) (fun c20 => ?_)
    · refine wq_iconst (z := 1) (zlit rfl) dX11_readsItem_170 ?_
      refine wq_istore_n (ls' := [(0, vR 343), (1, vI y1), (2, vI y2), (3, vI 1)]) rfl (by decide) rfl dX11_readsItem_171 ?_
      refine wq_aload_n 0 rfl rfl dX11_readsItem_172 ?_
      refine wq_bipush (z := 46) (zlit rfl) rfl dX11_readsItem_173 ?_
      refine wN_V (As := [vI 46]) vm_X11_takes lk_X11_114 tT_343 rfl rfl (Nat.le_of_ble_eq_true rfl) (Nat.le_of_ble_eq_true rfl) (d' := d - 1) (by omega) dX11_readsItem_175 (q18.1 c20) (fun v9 h22 q23 => ?_)
      obtain ⟨z21, rfl, hS24, q23⟩ := q23
      refine wq_st (st' := [vI z21]) rfl ?_
      refine wq_if_eq 201 rfl dX11_readsItem_178 (fun c25 => ?_) (fun c25 => ?_)
      · refine wq_aload_n 0 rfl rfl dX11_readsItem_201 ?_
        refine wq_bipush (z := 64) (zlit rfl) rfl dX11_readsItem_202 ?_
        refine wN_V (As := [vI 64]) vm_X11_takes lk_X11_114 tT_343 rfl rfl (Nat.le_of_ble_eq_true rfl) (Nat.le_of_ble_eq_true rfl) (d' := d - 1) (by omega) dX11_readsItem_204 (q23.1 c25) (fun v9 h27 q28 => ?_)
        obtain ⟨z26, rfl, hS29, q28⟩ := q28
        refine wq_st (st' := [vI z26]) rfl ?_
        refine wq_if_eq 247 rfl dX11_readsItem_207 (fun c30 => ?_) (fun c30 => ?_)
        · refine wq_aload_n 0 rfl rfl dX11_readsItem_247 ?_
          refine wq_getI fk_X11_108 tT_343 (fun _ _ _ => rfl) dX11_readsItem_248 ?_
          refine wq_sipush (z := -1009) (zlit rfl) rfl dX11_readsItem_251 ?_
          refine wq_icmp_ne 263 rfl dX11_readsItem_254 (fun c31 => ?_) (fun c31 => ?_)
          · refine wq_iload_n 3 rfl rfl dX11_readsItem_263 ?_
            refine wq_if_eq 273 rfl dX11_readsItem_264 (fun c32 => absurd c32 (by decide)) (fun _ => ?_)
            refine wq_aload_n 0 rfl rfl dX11_readsItem_267 ?_
            refine wq_bipush (z := 59) (zlit rfl) rfl dX11_readsItem_268 ?_
            refine wN_V (As := [vI 59]) vm_X11_expects lk_X11_167 tT_343 rfl rfl (Nat.le_of_ble_eq_true rfl) (Nat.le_of_ble_eq_true rfl) (d' := d - 1) (by omega) dX11_readsItem_270 ((q28.1 c30).1 c31) (fun v9 h34 q35 => ?_)
            obtain ⟨rfl, hS36, q35⟩ := q35
            refine wq_st (st' := []) rfl ?_
            exact wp_vret rfl dX11_readsItem_273 q35
          · refine wq_aload_n 0 rfl rfl dX11_readsItem_257 ?_
            refine wq_iload_n 1 rfl rfl dX11_readsItem_258 ?_
            refine wN_V (As := [vI y1]) vm_X11_readsNamed lk_X11_189 tT_343 rfl rfl (Nat.le_of_ble_eq_true rfl) (Nat.le_of_ble_eq_true rfl) (d' := d - 1) (by omega) dX11_readsItem_259 ((q28.1 c30).2 c31) (fun v9 h38 q39 => ?_)
            obtain ⟨z37, rfl, hS40, q39⟩ := q39
            refine wq_st (st' := [vI z37]) rfl ?_
            refine wq_istore_n (ls' := [(0, vR 343), (1, vI y1), (2, vI y2), (3, vI z37)]) rfl (by decide) rfl dX11_readsItem_262 ?_
            refine wq_iload_n 3 rfl rfl dX11_readsItem_263 ?_
            refine wq_if_eq 273 rfl dX11_readsItem_264 (fun c41 => ?_) (fun c41 => ?_)
            · exact wp_vret rfl dX11_readsItem_273 (q39.1 c41)
            · refine wq_aload_n 0 rfl rfl dX11_readsItem_267 ?_
              refine wq_bipush (z := 59) (zlit rfl) rfl dX11_readsItem_268 ?_
              refine wN_V (As := [vI 59]) vm_X11_expects lk_X11_167 tT_343 rfl rfl (Nat.le_of_ble_eq_true rfl) (Nat.le_of_ble_eq_true rfl) (d' := d - 1) (by omega) dX11_readsItem_270 (q39.2 c41) (fun v9 h43 q44 => ?_)
              obtain ⟨rfl, hS45, q44⟩ := q44
              refine wq_st (st' := []) rfl ?_
              exact wp_vret rfl dX11_readsItem_273 q44
        · refine wq_aload_n 0 rfl rfl dX11_readsItem_210 ?_
          refine wq_iload_n 1 rfl rfl dX11_readsItem_211 ?_
          refine wq_iconst (z := 0) (zlit rfl) dX11_readsItem_212 ?_
          refine wq_iconst (z := 4) (zlit rfl) dX11_readsItem_213 ?_
          refine wN_V (As := [vI y1, vI 0, vI 4]) vm_X11_writes lk_X11_163 tT_343 rfl rfl (Nat.le_of_ble_eq_true rfl) (Nat.le_of_ble_eq_true rfl) (d' := d - 1) (by omega) dX11_readsItem_214 (q28.2 c30) (fun v9 h47 q48 => ?_)
          obtain ⟨rfl, hS49, q48⟩ := q48
          refine wq_st (st' := []) rfl ?_
          refine wq_aload_n 0 rfl rfl dX11_readsItem_217 ?_
          refine wN_V (As := []) vm_X11_number lk_X11_156 tT_343 rfl rfl (Nat.le_of_ble_eq_true rfl) (Nat.le_of_ble_eq_true rfl) (d' := d - 1) (by omega) dX11_readsItem_218 q48 (fun v9 h51 q52 => ?_)
          obtain ⟨z50, rfl, hS53, q52⟩ := q52
          refine wq_st (st' := [vI z50]) rfl ?_
          refine wq_istore (ls' := [(0, vR 343), (1, vI y1), (2, vI y2), (3, vI 1), (4, vI z50)]) (by decide) rfl dX11_readsItem_221 ?_
          refine wq_aload_n 0 rfl rfl dX11_readsItem_223 ?_
          refine wq_iload_n 1 rfl rfl dX11_readsItem_224 ?_
          refine wq_iconst (z := 4) (zlit rfl) dX11_readsItem_225 ?_
          refine wq_iload 4 rfl dX11_readsItem_226 ?_
          refine wN_V (As := [vI y1, vI 4, vI z50]) vm_X11_writes lk_X11_163 tT_343 rfl rfl (Nat.le_of_ble_eq_true rfl) (Nat.le_of_ble_eq_true rfl) (d' := d - 1) (by omega) dX11_readsItem_228 q52 (fun v9 h55 q56 => ?_)
          obtain ⟨rfl, hS57, q56⟩ := q56
          refine wq_st (st' := []) rfl ?_
          refine wq_iload 4 rfl dX11_readsItem_231 ?_
          refine wq_if_ne 244 rfl dX11_readsItem_233 (fun c58 => ?_) (fun c58 => ?_)
          · refine wq_goto 263 rfl dX11_readsItem_244 ?_
            refine wq_iload_n 3 rfl rfl dX11_readsItem_263 ?_
            refine wq_if_eq 273 rfl dX11_readsItem_264 (fun c59 => absurd c59 (by decide)) (fun _ => ?_)
            refine wq_aload_n 0 rfl rfl dX11_readsItem_267 ?_
            refine wq_bipush (z := 59) (zlit rfl) rfl dX11_readsItem_268 ?_
            refine wN_V (As := [vI 59]) vm_X11_expects lk_X11_167 tT_343 rfl rfl (Nat.le_of_ble_eq_true rfl) (Nat.le_of_ble_eq_true rfl) (d' := d - 1) (by omega) dX11_readsItem_270 (q56.1 c58) (fun v9 h61 q62 => ?_)
            obtain ⟨rfl, hS63, q62⟩ := q62
            refine wq_st (st' := []) rfl ?_
            exact wp_vret rfl dX11_readsItem_273 q62
          · refine wq_aload_n 0 rfl rfl dX11_readsItem_236 ?_
            refine wq_aload_n 0 rfl rfl dX11_readsItem_237 ?_
            refine wq_getI fk_X11_122 tT_343 (fun _ _ _ => rfl) dX11_readsItem_238 ?_
            refine wN_V (As := [vI (gI h55 343 17)]) vm_X11_faults lk_X11_118 tT_343 rfl rfl (Nat.le_of_ble_eq_true rfl) (Nat.le_of_ble_eq_true rfl) (d' := d - 1) (by omega) dX11_readsItem_241 (q56.2 c58) (fun v9 h65 q66 => ?_)
            obtain ⟨rfl, hS67, q66⟩ := q66
            refine wq_st (st' := []) rfl ?_
            refine wq_goto 263 rfl dX11_readsItem_244 ?_
            refine wq_iload_n 3 rfl rfl dX11_readsItem_263 ?_
            refine wq_if_eq 273 rfl dX11_readsItem_264 (fun c68 => absurd c68 (by decide)) (fun _ => ?_)
            refine wq_aload_n 0 rfl rfl dX11_readsItem_267 ?_
            refine wq_bipush (z := 59) (zlit rfl) rfl dX11_readsItem_268 ?_
            refine wN_V (As := [vI 59]) vm_X11_expects lk_X11_167 tT_343 rfl rfl (Nat.le_of_ble_eq_true rfl) (Nat.le_of_ble_eq_true rfl) (d' := d - 1) (by omega) dX11_readsItem_270 q66 (fun v9 h70 q71 => ?_)
            obtain ⟨rfl, hS72, q71⟩ := q71
            refine wq_st (st' := []) rfl ?_
            exact wp_vret rfl dX11_readsItem_273 q71
      · refine wq_aload_n 0 rfl rfl dX11_readsItem_181 ?_
        refine wq_iload_n 1 rfl rfl dX11_readsItem_182 ?_
        refine wq_iconst (z := 0) (zlit rfl) dX11_readsItem_183 ?_
        refine wq_iconst (z := 3) (zlit rfl) dX11_readsItem_184 ?_
        refine wN_V (As := [vI y1, vI 0, vI 3]) vm_X11_writes lk_X11_163 tT_343 rfl rfl (Nat.le_of_ble_eq_true rfl) (Nat.le_of_ble_eq_true rfl) (d' := d - 1) (by omega) dX11_readsItem_185 (q23.2 c25) (fun v9 h74 q75 => ?_)
        obtain ⟨rfl, hS76, q75⟩ := q75
        refine wq_st (st' := []) rfl ?_
        refine wq_aload_n 0 rfl rfl dX11_readsItem_188 ?_
        refine wq_iload_n 1 rfl rfl dX11_readsItem_189 ?_
        refine wq_iconst (z := 4) (zlit rfl) dX11_readsItem_190 ?_
        refine wq_aload_n 0 rfl rfl dX11_readsItem_191 ?_
        refine wN_V (As := []) vm_X11_number lk_X11_156 tT_343 rfl rfl (Nat.le_of_ble_eq_true rfl) (Nat.le_of_ble_eq_true rfl) (d' := d - 1) (by omega) dX11_readsItem_192 q75 (fun v9 h78 q79 => ?_)
        obtain ⟨z77, rfl, hS80, q79⟩ := q79
        refine wq_st (st' := [vI z77, vI 4, vI y1, vR 343]) rfl ?_
        refine wN_V (As := [vI y1, vI 4, vI z77]) vm_X11_writes lk_X11_163 tT_343 rfl rfl (Nat.le_of_ble_eq_true rfl) (Nat.le_of_ble_eq_true rfl) (d' := d - 1) (by omega) dX11_readsItem_195 q79 (fun v9 h82 q83 => ?_)
        obtain ⟨rfl, hS84, q83⟩ := q83
        refine wq_st (st' := []) rfl ?_
        refine wq_goto 263 rfl dX11_readsItem_198 ?_
        refine wq_iload_n 3 rfl rfl dX11_readsItem_263 ?_
        refine wq_if_eq 273 rfl dX11_readsItem_264 (fun c85 => absurd c85 (by decide)) (fun _ => ?_)
        refine wq_aload_n 0 rfl rfl dX11_readsItem_267 ?_
        refine wq_bipush (z := 59) (zlit rfl) rfl dX11_readsItem_268 ?_
        refine wN_V (As := [vI 59]) vm_X11_expects lk_X11_167 tT_343 rfl rfl (Nat.le_of_ble_eq_true rfl) (Nat.le_of_ble_eq_true rfl) (d' := d - 1) (by omega) dX11_readsItem_270 q83 (fun v9 h87 q88 => ?_)
        obtain ⟨rfl, hS89, q88⟩ := q88
        refine wq_st (st' := []) rfl ?_
        exact wp_vret rfl dX11_readsItem_273 q88
    · refine wq_aload_n 0 rfl rfl dX11_readsItem_127 ?_
      refine wq_iload_n 1 rfl rfl dX11_readsItem_128 ?_
      refine wN_V (As := [vI y1]) vm_X11_integerNamed lk_X11_159 tT_343 rfl rfl (Nat.le_of_ble_eq_true rfl) (Nat.le_of_ble_eq_true rfl) (d' := d - 1) (by omega) dX11_readsItem_129 (q18.2 c20) (fun v9 h91 q92 => ?_)
      obtain ⟨z90, rfl, hS93, q92⟩ := q92
      refine wq_st (st' := [vI z90]) rfl ?_
      refine wq_istore_n (ls' := [(0, vR 343), (1, vI y1), (2, vI y2), (3, vI z90)]) rfl (by decide) rfl dX11_readsItem_132 ?_
      refine wq_aload_n 0 rfl rfl dX11_readsItem_133 ?_
      refine wq_bipush (z := 61) (zlit rfl) rfl dX11_readsItem_134 ?_
      refine wN_V (As := [vI 61]) vm_X11_expects lk_X11_167 tT_343 rfl rfl (Nat.le_of_ble_eq_true rfl) (Nat.le_of_ble_eq_true rfl) (d' := d - 1) (by omega) dX11_readsItem_136 q92 (fun v9 h95 q96 => ?_)
      obtain ⟨rfl, hS97, q96⟩ := q96
      refine wq_st (st' := []) rfl ?_
      refine wq_aload_n 0 rfl rfl dX11_readsItem_139 ?_
      refine wq_iload_n 1 rfl rfl dX11_readsItem_140 ?_
      refine wq_iconst (z := 2) (zlit rfl) dX11_readsItem_141 ?_
      refine wq_iload_n 3 rfl rfl dX11_readsItem_142 ?_
      refine wN_V (As := [vI y1, vI 2, vI z90]) vm_X11_writes lk_X11_163 tT_343 rfl rfl (Nat.le_of_ble_eq_true rfl) (Nat.le_of_ble_eq_true rfl) (d' := d - 1) (by omega) dX11_readsItem_143 q96 (fun v9 h99 q100 => ?_)
      obtain ⟨rfl, hS101, q100⟩ := q100
      refine wq_st (st' := []) rfl ?_
      refine wq_aload_n 0 rfl rfl dX11_readsItem_146 ?_
      refine wq_iload_n 1 rfl rfl dX11_readsItem_147 ?_
      refine wq_iconst (z := 3) (zlit rfl) dX11_readsItem_148 ?_
      refine wq_aload_n 0 rfl rfl dX11_readsItem_149 ?_
      refine wq_getI fk_X11_108 tT_343 (fun _ _ _ => rfl) dX11_readsItem_150 ?_
      refine wq_sipush (z := -1009) (zlit rfl) rfl dX11_readsItem_153 ?_
      refine wq_icmp_ne 166 rfl dX11_readsItem_156 (fun c102 => ?_) (fun c102 => ?_)
      · refine wq_iconst (z := 0) (zlit rfl) dX11_readsItem_166 ?_
        refine wN_V (As := [vI y1, vI 3, vI 0]) vm_X11_writes lk_X11_163 tT_343 rfl rfl (Nat.le_of_ble_eq_true rfl) (Nat.le_of_ble_eq_true rfl) (d' := d - 1) (by omega) dX11_readsItem_167 (q100.1 c102) (fun v9 h104 q105 => ?_)
        obtain ⟨rfl, hS106, q105⟩ := q105
        refine wq_st (st' := []) rfl ?_
        refine wq_iconst (z := 1) (zlit rfl) dX11_readsItem_170 ?_
        refine wq_istore_n (ls' := [(0, vR 343), (1, vI y1), (2, vI y2), (3, vI 1)]) rfl (by decide) rfl dX11_readsItem_171 ?_
        refine wq_aload_n 0 rfl rfl dX11_readsItem_172 ?_
        refine wq_bipush (z := 46) (zlit rfl) rfl dX11_readsItem_173 ?_
        refine wN_V (As := [vI 46]) vm_X11_takes lk_X11_114 tT_343 rfl rfl (Nat.le_of_ble_eq_true rfl) (Nat.le_of_ble_eq_true rfl) (d' := d - 1) (by omega) dX11_readsItem_175 q105 (fun v9 h108 q109 => ?_)
        obtain ⟨z107, rfl, hS110, q109⟩ := q109
        refine wq_st (st' := [vI z107]) rfl ?_
        refine wq_if_eq 201 rfl dX11_readsItem_178 (fun c111 => ?_) (fun c111 => ?_)
        · refine wq_aload_n 0 rfl rfl dX11_readsItem_201 ?_
          refine wq_bipush (z := 64) (zlit rfl) rfl dX11_readsItem_202 ?_
          refine wN_V (As := [vI 64]) vm_X11_takes lk_X11_114 tT_343 rfl rfl (Nat.le_of_ble_eq_true rfl) (Nat.le_of_ble_eq_true rfl) (d' := d - 1) (by omega) dX11_readsItem_204 (q109.1 c111) (fun v9 h113 q114 => ?_)
          obtain ⟨z112, rfl, hS115, q114⟩ := q114
          refine wq_st (st' := [vI z112]) rfl ?_
          refine wq_if_eq 247 rfl dX11_readsItem_207 (fun c116 => ?_) (fun c116 => ?_)
          · refine wq_aload_n 0 rfl rfl dX11_readsItem_247 ?_
            refine wq_getI fk_X11_108 tT_343 (fun _ _ _ => rfl) dX11_readsItem_248 ?_
            refine wq_sipush (z := -1009) (zlit rfl) rfl dX11_readsItem_251 ?_
            refine wq_icmp_ne 263 rfl dX11_readsItem_254 (fun c117 => ?_) (fun c117 => ?_)
            · refine wq_iload_n 3 rfl rfl dX11_readsItem_263 ?_
              refine wq_if_eq 273 rfl dX11_readsItem_264 (fun c118 => absurd c118 (by decide)) (fun _ => ?_)
              refine wq_aload_n 0 rfl rfl dX11_readsItem_267 ?_
              refine wq_bipush (z := 59) (zlit rfl) rfl dX11_readsItem_268 ?_
              refine wN_V (As := [vI 59]) vm_X11_expects lk_X11_167 tT_343 rfl rfl (Nat.le_of_ble_eq_true rfl) (Nat.le_of_ble_eq_true rfl) (d' := d - 1) (by omega) dX11_readsItem_270 ((q114.1 c116).1 c117) (fun v9 h120 q121 => ?_)
              obtain ⟨rfl, hS122, q121⟩ := q121
              refine wq_st (st' := []) rfl ?_
              exact wp_vret rfl dX11_readsItem_273 q121
            · refine wq_aload_n 0 rfl rfl dX11_readsItem_257 ?_
              refine wq_iload_n 1 rfl rfl dX11_readsItem_258 ?_
              refine wN_V (As := [vI y1]) vm_X11_readsNamed lk_X11_189 tT_343 rfl rfl (Nat.le_of_ble_eq_true rfl) (Nat.le_of_ble_eq_true rfl) (d' := d - 1) (by omega) dX11_readsItem_259 ((q114.1 c116).2 c117) (fun v9 h124 q125 => ?_)
              obtain ⟨z123, rfl, hS126, q125⟩ := q125
              refine wq_st (st' := [vI z123]) rfl ?_
              refine wq_istore_n (ls' := [(0, vR 343), (1, vI y1), (2, vI y2), (3, vI z123)]) rfl (by decide) rfl dX11_readsItem_262 ?_
              refine wq_iload_n 3 rfl rfl dX11_readsItem_263 ?_
              refine wq_if_eq 273 rfl dX11_readsItem_264 (fun c127 => ?_) (fun c127 => ?_)
              · exact wp_vret rfl dX11_readsItem_273 (q125.1 c127)
              · refine wq_aload_n 0 rfl rfl dX11_readsItem_267 ?_
                refine wq_bipush (z := 59) (zlit rfl) rfl dX11_readsItem_268 ?_
                refine wN_V (As := [vI 59]) vm_X11_expects lk_X11_167 tT_343 rfl rfl (Nat.le_of_ble_eq_true rfl) (Nat.le_of_ble_eq_true rfl) (d' := d - 1) (by omega) dX11_readsItem_270 (q125.2 c127) (fun v9 h129 q130 => ?_)
                obtain ⟨rfl, hS131, q130⟩ := q130
                refine wq_st (st' := []) rfl ?_
                exact wp_vret rfl dX11_readsItem_273 q130
          · refine wq_aload_n 0 rfl rfl dX11_readsItem_210 ?_
            refine wq_iload_n 1 rfl rfl dX11_readsItem_211 ?_
            refine wq_iconst (z := 0) (zlit rfl) dX11_readsItem_212 ?_
            refine wq_iconst (z := 4) (zlit rfl) dX11_readsItem_213 ?_
            refine wN_V (As := [vI y1, vI 0, vI 4]) vm_X11_writes lk_X11_163 tT_343 rfl rfl (Nat.le_of_ble_eq_true rfl) (Nat.le_of_ble_eq_true rfl) (d' := d - 1) (by omega) dX11_readsItem_214 (q114.2 c116) (fun v9 h133 q134 => ?_)
            obtain ⟨rfl, hS135, q134⟩ := q134
            refine wq_st (st' := []) rfl ?_
            refine wq_aload_n 0 rfl rfl dX11_readsItem_217 ?_
            refine wN_V (As := []) vm_X11_number lk_X11_156 tT_343 rfl rfl (Nat.le_of_ble_eq_true rfl) (Nat.le_of_ble_eq_true rfl) (d' := d - 1) (by omega) dX11_readsItem_218 q134 (fun v9 h137 q138 => ?_)
            obtain ⟨z136, rfl, hS139, q138⟩ := q138
            refine wq_st (st' := [vI z136]) rfl ?_
            refine wq_istore (ls' := [(0, vR 343), (1, vI y1), (2, vI y2), (3, vI 1), (4, vI z136)]) (by decide) rfl dX11_readsItem_221 ?_
            refine wq_aload_n 0 rfl rfl dX11_readsItem_223 ?_
            refine wq_iload_n 1 rfl rfl dX11_readsItem_224 ?_
            refine wq_iconst (z := 4) (zlit rfl) dX11_readsItem_225 ?_
            refine wq_iload 4 rfl dX11_readsItem_226 ?_
            refine wN_V (As := [vI y1, vI 4, vI z136]) vm_X11_writes lk_X11_163 tT_343 rfl rfl (Nat.le_of_ble_eq_true rfl) (Nat.le_of_ble_eq_true rfl) (d' := d - 1) (by omega) dX11_readsItem_228 q138 (fun v9 h141 q142 => ?_)
            obtain ⟨rfl, hS143, q142⟩ := q142
            refine wq_st (st' := []) rfl ?_
            refine wq_iload 4 rfl dX11_readsItem_231 ?_
            refine wq_if_ne 244 rfl dX11_readsItem_233 (fun c144 => ?_) (fun c144 => ?_)
            · refine wq_goto 263 rfl dX11_readsItem_244 ?_
              refine wq_iload_n 3 rfl rfl dX11_readsItem_263 ?_
              refine wq_if_eq 273 rfl dX11_readsItem_264 (fun c145 => absurd c145 (by decide)) (fun _ => ?_)
              refine wq_aload_n 0 rfl rfl dX11_readsItem_267 ?_
              refine wq_bipush (z := 59) (zlit rfl) rfl dX11_readsItem_268 ?_
              refine wN_V (As := [vI 59]) vm_X11_expects lk_X11_167 tT_343 rfl rfl (Nat.le_of_ble_eq_true rfl) (Nat.le_of_ble_eq_true rfl) (d' := d - 1) (by omega) dX11_readsItem_270 (q142.1 c144) (fun v9 h147 q148 => ?_)
              obtain ⟨rfl, hS149, q148⟩ := q148
              refine wq_st (st' := []) rfl ?_
              exact wp_vret rfl dX11_readsItem_273 q148
            · refine wq_aload_n 0 rfl rfl dX11_readsItem_236 ?_
              refine wq_aload_n 0 rfl rfl dX11_readsItem_237 ?_
              refine wq_getI fk_X11_122 tT_343 (fun _ _ _ => rfl) dX11_readsItem_238 ?_
              refine wN_V (As := [vI (gI h141 343 17)]) vm_X11_faults lk_X11_118 tT_343 rfl rfl (Nat.le_of_ble_eq_true rfl) (Nat.le_of_ble_eq_true rfl) (d' := d - 1) (by omega) dX11_readsItem_241 (q142.2 c144) (fun v9 h151 q152 => ?_)
              obtain ⟨rfl, hS153, q152⟩ := q152
              refine wq_st (st' := []) rfl ?_
              refine wq_goto 263 rfl dX11_readsItem_244 ?_
              refine wq_iload_n 3 rfl rfl dX11_readsItem_263 ?_
              refine wq_if_eq 273 rfl dX11_readsItem_264 (fun c154 => absurd c154 (by decide)) (fun _ => ?_)
              refine wq_aload_n 0 rfl rfl dX11_readsItem_267 ?_
              refine wq_bipush (z := 59) (zlit rfl) rfl dX11_readsItem_268 ?_
              refine wN_V (As := [vI 59]) vm_X11_expects lk_X11_167 tT_343 rfl rfl (Nat.le_of_ble_eq_true rfl) (Nat.le_of_ble_eq_true rfl) (d' := d - 1) (by omega) dX11_readsItem_270 q152 (fun v9 h156 q157 => ?_)
              obtain ⟨rfl, hS158, q157⟩ := q157
              refine wq_st (st' := []) rfl ?_
              exact wp_vret rfl dX11_readsItem_273 q157
        · refine wq_aload_n 0 rfl rfl dX11_readsItem_181 ?_
          refine wq_iload_n 1 rfl rfl dX11_readsItem_182 ?_
          refine wq_iconst (z := 0) (zlit rfl) dX11_readsItem_183 ?_
          refine wq_iconst (z := 3) (zlit rfl) dX11_readsItem_184 ?_
          refine wN_V (As := [vI y1, vI 0, vI 3]) vm_X11_writes lk_X11_163 tT_343 rfl rfl (Nat.le_of_ble_eq_true rfl) (Nat.le_of_ble_eq_true rfl) (d' := d - 1) (by omega) dX11_readsItem_185 (q109.2 c111) (fun v9 h160 q161 => ?_)
          obtain ⟨rfl, hS162, q161⟩ := q161
          refine wq_st (st' := []) rfl ?_
          refine wq_aload_n 0 rfl rfl dX11_readsItem_188 ?_
          refine wq_iload_n 1 rfl rfl dX11_readsItem_189 ?_
          refine wq_iconst (z := 4) (zlit rfl) dX11_readsItem_190 ?_
          refine wq_aload_n 0 rfl rfl dX11_readsItem_191 ?_
          refine wN_V (As := []) vm_X11_number lk_X11_156 tT_343 rfl rfl (Nat.le_of_ble_eq_true rfl) (Nat.le_of_ble_eq_true rfl) (d' := d - 1) (by omega) dX11_readsItem_192 q161 (fun v9 h164 q165 => ?_)
          obtain ⟨z163, rfl, hS166, q165⟩ := q165
          refine wq_st (st' := [vI z163, vI 4, vI y1, vR 343]) rfl ?_
          refine wN_V (As := [vI y1, vI 4, vI z163]) vm_X11_writes lk_X11_163 tT_343 rfl rfl (Nat.le_of_ble_eq_true rfl) (Nat.le_of_ble_eq_true rfl) (d' := d - 1) (by omega) dX11_readsItem_195 q165 (fun v9 h168 q169 => ?_)
          obtain ⟨rfl, hS170, q169⟩ := q169
          refine wq_st (st' := []) rfl ?_
          refine wq_goto 263 rfl dX11_readsItem_198 ?_
          refine wq_iload_n 3 rfl rfl dX11_readsItem_263 ?_
          refine wq_if_eq 273 rfl dX11_readsItem_264 (fun c171 => absurd c171 (by decide)) (fun _ => ?_)
          refine wq_aload_n 0 rfl rfl dX11_readsItem_267 ?_
          refine wq_bipush (z := 59) (zlit rfl) rfl dX11_readsItem_268 ?_
          refine wN_V (As := [vI 59]) vm_X11_expects lk_X11_167 tT_343 rfl rfl (Nat.le_of_ble_eq_true rfl) (Nat.le_of_ble_eq_true rfl) (d' := d - 1) (by omega) dX11_readsItem_270 q169 (fun v9 h173 q174 => ?_)
          obtain ⟨rfl, hS175, q174⟩ := q174
          refine wq_st (st' := []) rfl ?_
          exact wp_vret rfl dX11_readsItem_273 q174
      · refine wq_aload_n 0 rfl rfl dX11_readsItem_159 ?_
        refine wN_V (As := []) vm_X11_number lk_X11_156 tT_343 rfl rfl (Nat.le_of_ble_eq_true rfl) (Nat.le_of_ble_eq_true rfl) (d' := d - 1) (by omega) dX11_readsItem_160 (q100.2 c102) (fun v9 h177 q178 => ?_)
        obtain ⟨z176, rfl, hS179, q178⟩ := q178
        refine wq_st (st' := [vI z176, vI 3, vI y1, vR 343]) rfl ?_
        refine wq_goto 167 rfl dX11_readsItem_163 ?_
        refine wN_V (As := [vI y1, vI 3, vI z176]) vm_X11_writes lk_X11_163 tT_343 rfl rfl (Nat.le_of_ble_eq_true rfl) (Nat.le_of_ble_eq_true rfl) (d' := d - 1) (by omega) dX11_readsItem_167 q178 (fun v9 h181 q182 => ?_)
        obtain ⟨rfl, hS183, q182⟩ := q182
        refine wq_st (st' := []) rfl ?_
        refine wq_iconst (z := 1) (zlit rfl) dX11_readsItem_170 ?_
        refine wq_istore_n (ls' := [(0, vR 343), (1, vI y1), (2, vI y2), (3, vI 1)]) rfl (by decide) rfl dX11_readsItem_171 ?_
        refine wq_aload_n 0 rfl rfl dX11_readsItem_172 ?_
        refine wq_bipush (z := 46) (zlit rfl) rfl dX11_readsItem_173 ?_
        refine wN_V (As := [vI 46]) vm_X11_takes lk_X11_114 tT_343 rfl rfl (Nat.le_of_ble_eq_true rfl) (Nat.le_of_ble_eq_true rfl) (d' := d - 1) (by omega) dX11_readsItem_175 q182 (fun v9 h185 q186 => ?_)
        obtain ⟨z184, rfl, hS187, q186⟩ := q186
        refine wq_st (st' := [vI z184]) rfl ?_
        refine wq_if_eq 201 rfl dX11_readsItem_178 (fun c188 => ?_) (fun c188 => ?_)
        · refine wq_aload_n 0 rfl rfl dX11_readsItem_201 ?_
          refine wq_bipush (z := 64) (zlit rfl) rfl dX11_readsItem_202 ?_
          refine wN_V (As := [vI 64]) vm_X11_takes lk_X11_114 tT_343 rfl rfl (Nat.le_of_ble_eq_true rfl) (Nat.le_of_ble_eq_true rfl) (d' := d - 1) (by omega) dX11_readsItem_204 (q186.1 c188) (fun v9 h190 q191 => ?_)
          obtain ⟨z189, rfl, hS192, q191⟩ := q191
          refine wq_st (st' := [vI z189]) rfl ?_
          refine wq_if_eq 247 rfl dX11_readsItem_207 (fun c193 => ?_) (fun c193 => ?_)
          · refine wq_aload_n 0 rfl rfl dX11_readsItem_247 ?_
            refine wq_getI fk_X11_108 tT_343 (fun _ _ _ => rfl) dX11_readsItem_248 ?_
            refine wq_sipush (z := -1009) (zlit rfl) rfl dX11_readsItem_251 ?_
            refine wq_icmp_ne 263 rfl dX11_readsItem_254 (fun c194 => ?_) (fun c194 => ?_)
            · refine wq_iload_n 3 rfl rfl dX11_readsItem_263 ?_
              refine wq_if_eq 273 rfl dX11_readsItem_264 (fun c195 => absurd c195 (by decide)) (fun _ => ?_)
              refine wq_aload_n 0 rfl rfl dX11_readsItem_267 ?_
              refine wq_bipush (z := 59) (zlit rfl) rfl dX11_readsItem_268 ?_
              refine wN_V (As := [vI 59]) vm_X11_expects lk_X11_167 tT_343 rfl rfl (Nat.le_of_ble_eq_true rfl) (Nat.le_of_ble_eq_true rfl) (d' := d - 1) (by omega) dX11_readsItem_270 ((q191.1 c193).1 c194) (fun v9 h197 q198 => ?_)
              obtain ⟨rfl, hS199, q198⟩ := q198
              refine wq_st (st' := []) rfl ?_
              exact wp_vret rfl dX11_readsItem_273 q198
            · refine wq_aload_n 0 rfl rfl dX11_readsItem_257 ?_
              refine wq_iload_n 1 rfl rfl dX11_readsItem_258 ?_
              refine wN_V (As := [vI y1]) vm_X11_readsNamed lk_X11_189 tT_343 rfl rfl (Nat.le_of_ble_eq_true rfl) (Nat.le_of_ble_eq_true rfl) (d' := d - 1) (by omega) dX11_readsItem_259 ((q191.1 c193).2 c194) (fun v9 h201 q202 => ?_)
              obtain ⟨z200, rfl, hS203, q202⟩ := q202
              refine wq_st (st' := [vI z200]) rfl ?_
              refine wq_istore_n (ls' := [(0, vR 343), (1, vI y1), (2, vI y2), (3, vI z200)]) rfl (by decide) rfl dX11_readsItem_262 ?_
              refine wq_iload_n 3 rfl rfl dX11_readsItem_263 ?_
              refine wq_if_eq 273 rfl dX11_readsItem_264 (fun c204 => ?_) (fun c204 => ?_)
              · exact wp_vret rfl dX11_readsItem_273 (q202.1 c204)
              · refine wq_aload_n 0 rfl rfl dX11_readsItem_267 ?_
                refine wq_bipush (z := 59) (zlit rfl) rfl dX11_readsItem_268 ?_
                refine wN_V (As := [vI 59]) vm_X11_expects lk_X11_167 tT_343 rfl rfl (Nat.le_of_ble_eq_true rfl) (Nat.le_of_ble_eq_true rfl) (d' := d - 1) (by omega) dX11_readsItem_270 (q202.2 c204) (fun v9 h206 q207 => ?_)
                obtain ⟨rfl, hS208, q207⟩ := q207
                refine wq_st (st' := []) rfl ?_
                exact wp_vret rfl dX11_readsItem_273 q207
          · refine wq_aload_n 0 rfl rfl dX11_readsItem_210 ?_
            refine wq_iload_n 1 rfl rfl dX11_readsItem_211 ?_
            refine wq_iconst (z := 0) (zlit rfl) dX11_readsItem_212 ?_
            refine wq_iconst (z := 4) (zlit rfl) dX11_readsItem_213 ?_
            refine wN_V (As := [vI y1, vI 0, vI 4]) vm_X11_writes lk_X11_163 tT_343 rfl rfl (Nat.le_of_ble_eq_true rfl) (Nat.le_of_ble_eq_true rfl) (d' := d - 1) (by omega) dX11_readsItem_214 (q191.2 c193) (fun v9 h210 q211 => ?_)
            obtain ⟨rfl, hS212, q211⟩ := q211
            refine wq_st (st' := []) rfl ?_
            refine wq_aload_n 0 rfl rfl dX11_readsItem_217 ?_
            refine wN_V (As := []) vm_X11_number lk_X11_156 tT_343 rfl rfl (Nat.le_of_ble_eq_true rfl) (Nat.le_of_ble_eq_true rfl) (d' := d - 1) (by omega) dX11_readsItem_218 q211 (fun v9 h214 q215 => ?_)
            obtain ⟨z213, rfl, hS216, q215⟩ := q215
            refine wq_st (st' := [vI z213]) rfl ?_
            refine wq_istore (ls' := [(0, vR 343), (1, vI y1), (2, vI y2), (3, vI 1), (4, vI z213)]) (by decide) rfl dX11_readsItem_221 ?_
            refine wq_aload_n 0 rfl rfl dX11_readsItem_223 ?_
            refine wq_iload_n 1 rfl rfl dX11_readsItem_224 ?_
            refine wq_iconst (z := 4) (zlit rfl) dX11_readsItem_225 ?_
            refine wq_iload 4 rfl dX11_readsItem_226 ?_
            refine wN_V (As := [vI y1, vI 4, vI z213]) vm_X11_writes lk_X11_163 tT_343 rfl rfl (Nat.le_of_ble_eq_true rfl) (Nat.le_of_ble_eq_true rfl) (d' := d - 1) (by omega) dX11_readsItem_228 q215 (fun v9 h218 q219 => ?_)
            obtain ⟨rfl, hS220, q219⟩ := q219
            refine wq_st (st' := []) rfl ?_
            refine wq_iload 4 rfl dX11_readsItem_231 ?_
            refine wq_if_ne 244 rfl dX11_readsItem_233 (fun c221 => ?_) (fun c221 => ?_)
            · refine wq_goto 263 rfl dX11_readsItem_244 ?_
              refine wq_iload_n 3 rfl rfl dX11_readsItem_263 ?_
              refine wq_if_eq 273 rfl dX11_readsItem_264 (fun c222 => absurd c222 (by decide)) (fun _ => ?_)
              refine wq_aload_n 0 rfl rfl dX11_readsItem_267 ?_
              refine wq_bipush (z := 59) (zlit rfl) rfl dX11_readsItem_268 ?_
              refine wN_V (As := [vI 59]) vm_X11_expects lk_X11_167 tT_343 rfl rfl (Nat.le_of_ble_eq_true rfl) (Nat.le_of_ble_eq_true rfl) (d' := d - 1) (by omega) dX11_readsItem_270 (q219.1 c221) (fun v9 h224 q225 => ?_)
              obtain ⟨rfl, hS226, q225⟩ := q225
              refine wq_st (st' := []) rfl ?_
              exact wp_vret rfl dX11_readsItem_273 q225
            · refine wq_aload_n 0 rfl rfl dX11_readsItem_236 ?_
              refine wq_aload_n 0 rfl rfl dX11_readsItem_237 ?_
              refine wq_getI fk_X11_122 tT_343 (fun _ _ _ => rfl) dX11_readsItem_238 ?_
              refine wN_V (As := [vI (gI h218 343 17)]) vm_X11_faults lk_X11_118 tT_343 rfl rfl (Nat.le_of_ble_eq_true rfl) (Nat.le_of_ble_eq_true rfl) (d' := d - 1) (by omega) dX11_readsItem_241 (q219.2 c221) (fun v9 h228 q229 => ?_)
              obtain ⟨rfl, hS230, q229⟩ := q229
              refine wq_st (st' := []) rfl ?_
              refine wq_goto 263 rfl dX11_readsItem_244 ?_
              refine wq_iload_n 3 rfl rfl dX11_readsItem_263 ?_
              refine wq_if_eq 273 rfl dX11_readsItem_264 (fun c231 => absurd c231 (by decide)) (fun _ => ?_)
              refine wq_aload_n 0 rfl rfl dX11_readsItem_267 ?_
              refine wq_bipush (z := 59) (zlit rfl) rfl dX11_readsItem_268 ?_
              refine wN_V (As := [vI 59]) vm_X11_expects lk_X11_167 tT_343 rfl rfl (Nat.le_of_ble_eq_true rfl) (Nat.le_of_ble_eq_true rfl) (d' := d - 1) (by omega) dX11_readsItem_270 q229 (fun v9 h233 q234 => ?_)
              obtain ⟨rfl, hS235, q234⟩ := q234
              refine wq_st (st' := []) rfl ?_
              exact wp_vret rfl dX11_readsItem_273 q234
        · refine wq_aload_n 0 rfl rfl dX11_readsItem_181 ?_
          refine wq_iload_n 1 rfl rfl dX11_readsItem_182 ?_
          refine wq_iconst (z := 0) (zlit rfl) dX11_readsItem_183 ?_
          refine wq_iconst (z := 3) (zlit rfl) dX11_readsItem_184 ?_
          refine wN_V (As := [vI y1, vI 0, vI 3]) vm_X11_writes lk_X11_163 tT_343 rfl rfl (Nat.le_of_ble_eq_true rfl) (Nat.le_of_ble_eq_true rfl) (d' := d - 1) (by omega) dX11_readsItem_185 (q186.2 c188) (fun v9 h237 q238 => ?_)
          obtain ⟨rfl, hS239, q238⟩ := q238
          refine wq_st (st' := []) rfl ?_
          refine wq_aload_n 0 rfl rfl dX11_readsItem_188 ?_
          refine wq_iload_n 1 rfl rfl dX11_readsItem_189 ?_
          refine wq_iconst (z := 4) (zlit rfl) dX11_readsItem_190 ?_
          refine wq_aload_n 0 rfl rfl dX11_readsItem_191 ?_
          refine wN_V (As := []) vm_X11_number lk_X11_156 tT_343 rfl rfl (Nat.le_of_ble_eq_true rfl) (Nat.le_of_ble_eq_true rfl) (d' := d - 1) (by omega) dX11_readsItem_192 q238 (fun v9 h241 q242 => ?_)
          obtain ⟨z240, rfl, hS243, q242⟩ := q242
          refine wq_st (st' := [vI z240, vI 4, vI y1, vR 343]) rfl ?_
          refine wN_V (As := [vI y1, vI 4, vI z240]) vm_X11_writes lk_X11_163 tT_343 rfl rfl (Nat.le_of_ble_eq_true rfl) (Nat.le_of_ble_eq_true rfl) (d' := d - 1) (by omega) dX11_readsItem_195 q242 (fun v9 h245 q246 => ?_)
          obtain ⟨rfl, hS247, q246⟩ := q246
          refine wq_st (st' := []) rfl ?_
          refine wq_goto 263 rfl dX11_readsItem_198 ?_
          refine wq_iload_n 3 rfl rfl dX11_readsItem_263 ?_
          refine wq_if_eq 273 rfl dX11_readsItem_264 (fun c248 => absurd c248 (by decide)) (fun _ => ?_)
          refine wq_aload_n 0 rfl rfl dX11_readsItem_267 ?_
          refine wq_bipush (z := 59) (zlit rfl) rfl dX11_readsItem_268 ?_
          refine wN_V (As := [vI 59]) vm_X11_expects lk_X11_167 tT_343 rfl rfl (Nat.le_of_ble_eq_true rfl) (Nat.le_of_ble_eq_true rfl) (d' := d - 1) (by omega) dX11_readsItem_270 q246 (fun v9 h250 q251 => ?_)
          obtain ⟨rfl, hS252, q251⟩ := q251
          refine wq_st (st' := []) rfl ?_
          exact wp_vret rfl dX11_readsItem_273 q251
  · refine wq_aload_n 0 rfl rfl dX11_readsItem_67 ?_
    refine wq_iload_n 1 rfl rfl dX11_readsItem_68 ?_
    refine wq_iload_n 3 rfl rfl dX11_readsItem_69 ?_
    refine wq_iconst (z := 0) (zlit rfl) dX11_readsItem_70 ?_
    refine wN_V (As := [vI y1, vI y3, vI 0]) vm_X11_writes lk_X11_163 tT_343 rfl rfl (Nat.le_of_ble_eq_true rfl) (Nat.le_of_ble_eq_true rfl) (d' := d - 1) (by omega) dX11_readsItem_71 (hv.2 c1) (fun v9 h254 q255 => ?_)
    obtain ⟨rfl, hS256, q255⟩ := q255
    refine wq_st (st' := []) rfl ?_
    refine z_nm (y3 + 1) (fun x257 e258 => ?_)
    refine wq_iinc (y := x257) (ls' := [(0, vR 343), (1, vI y1), (2, vI y2), (3, vI x257)]) 3 rfl e258.symm (by rw [e258]; exact q255.1) (by decide) rfl dX11_readsItem_74 ?_
    refine wq_goto 61 rfl dX11_readsItem_77 ?_
    exact wq_pick [0, 1, 2, 3] rfl (hI_61 y1 y2 x257 h254 ((q255.2 x257 e258) hS256))
theorem dX11_readsNamed_0 : decode cX11_readsNamed 0 = .ok (.aload_n 0, 1) := by decide +kernel
theorem dX11_readsNamed_1 : decode cX11_readsNamed 1 = .ok (.invokevirtual 150, 3) := by decide +kernel
theorem dX11_readsNamed_4 : decode cX11_readsNamed 4 = .ok (.istore_n 2, 1) := by decide +kernel
theorem dX11_readsNamed_5 : decode cX11_readsNamed 5 = .ok (.aload_n 0, 1) := by decide +kernel
theorem dX11_readsNamed_6 : decode cX11_readsNamed 6 = .ok (.getfield 108, 3) := by decide +kernel
theorem dX11_readsNamed_9 : decode cX11_readsNamed 9 = .ok (.sipush (-1009), 3) := by decide +kernel
theorem dX11_readsNamed_12 : decode cX11_readsNamed 12 = .ok (.if_icmp .ne 24, 3) := by decide +kernel
theorem dX11_readsNamed_15 : decode cX11_readsNamed 15 = .ok (.aload_n 0, 1) := by decide +kernel
theorem dX11_readsNamed_16 : decode cX11_readsNamed 16 = .ok (.iload_n 2, 1) := by decide +kernel
theorem dX11_readsNamed_17 : decode cX11_readsNamed 17 = .ok (.aload_n 0, 1) := by decide +kernel
theorem dX11_readsNamed_18 : decode cX11_readsNamed 18 = .ok (.getfield 186, 3) := by decide +kernel
theorem dX11_readsNamed_21 : decode cX11_readsNamed 21 = .ok (.iload_n 1, 1) := by decide +kernel
theorem dX11_readsNamed_22 : decode cX11_readsNamed 22 = .ok (.invokevirtual 147, 3) := by decide +kernel
theorem dX11_readsNamed_25 : decode cX11_readsNamed 25 = .ok (.ifCond .lt 11, 3) := by decide +kernel
theorem dX11_readsNamed_28 : decode cX11_readsNamed 28 = .ok (.aload_n 0, 1) := by decide +kernel
theorem dX11_readsNamed_29 : decode cX11_readsNamed 29 = .ok (.aload_n 0, 1) := by decide +kernel
theorem dX11_readsNamed_30 : decode cX11_readsNamed 30 = .ok (.getfield 132, 3) := by decide +kernel
theorem dX11_readsNamed_33 : decode cX11_readsNamed 33 = .ok (.invokevirtual 118, 3) := by decide +kernel
theorem dX11_readsNamed_36 : decode cX11_readsNamed 36 = .ok (.aload_n 0, 1) := by decide +kernel
theorem dX11_readsNamed_37 : decode cX11_readsNamed 37 = .ok (.bipush 58, 2) := by decide +kernel
theorem dX11_readsNamed_39 : decode cX11_readsNamed 39 = .ok (.invokevirtual 167, 3) := by decide +kernel
theorem dX11_readsNamed_42 : decode cX11_readsNamed 42 = .ok (.aload_n 0, 1) := by decide +kernel
theorem dX11_readsNamed_43 : decode cX11_readsNamed 43 = .ok (.iload_n 1, 1) := by decide +kernel
theorem dX11_readsNamed_44 : decode cX11_readsNamed 44 = .ok (.iconst 1, 1) := by decide +kernel
theorem dX11_readsNamed_45 : decode cX11_readsNamed 45 = .ok (.iload_n 2, 1) := by decide +kernel
theorem dX11_readsNamed_46 : decode cX11_readsNamed 46 = .ok (.invokevirtual 163, 3) := by decide +kernel
theorem dX11_readsNamed_49 : decode cX11_readsNamed 49 = .ok (.aload_n 0, 1) := by decide +kernel
theorem dX11_readsNamed_50 : decode cX11_readsNamed 50 = .ok (.getfield 108, 3) := by decide +kernel
theorem dX11_readsNamed_53 : decode cX11_readsNamed 53 = .ok (.sipush (-1009), 3) := by decide +kernel
theorem dX11_readsNamed_56 : decode cX11_readsNamed 56 = .ok (.if_icmp .ne 11, 3) := by decide +kernel
theorem dX11_readsNamed_59 : decode cX11_readsNamed 59 = .ok (.aload_n 0, 1) := by decide +kernel
theorem dX11_readsNamed_60 : decode cX11_readsNamed 60 = .ok (.iload_n 1, 1) := by decide +kernel
theorem dX11_readsNamed_61 : decode cX11_readsNamed 61 = .ok (.invokevirtual 192, 3) := by decide +kernel
theorem dX11_readsNamed_64 : decode cX11_readsNamed 64 = .ok (.ifCond .eq 7, 3) := by decide +kernel
theorem dX11_readsNamed_67 : decode cX11_readsNamed 67 = .ok (.iconst 1, 1) := by decide +kernel
theorem dX11_readsNamed_68 : decode cX11_readsNamed 68 = .ok (.goto 4, 3) := by decide +kernel
theorem dX11_readsNamed_71 : decode cX11_readsNamed 71 = .ok (.iconst 0, 1) := by decide +kernel
theorem dX11_readsNamed_72 : decode cX11_readsNamed 72 = .ok (.ireturn, 1) := by decide +kernel
theorem vc_X11_readsNamed_0 {G : zG} {d : Nat} {Q : Option zV → zHp → Prop} (p1 : Int) (h : zHp) (hS : zSh h) (hd : 8 ≤ d)  
    (hv : (wpN G (d - 1) M_X11_name 0 (zar 0 [vR 343]) [] h (qI (fun z1 h2 => zSh h2 ∧ (((gI h2 343 16) ≠ (-1009) → (wpN G (d - 1) M_X11_expects 0 (zar 0 [vR 343, vI 58]) [] h2 (qV (fun h7 => zSh h7 ∧ (wpN G (d - 1) M_X11_writes 0 (zar 0 [vR 343, vI p1, vI 1, vI z1]) [] h7 (qV (fun h11 => zSh h11 ∧ (((gI h11 343 16) ≠ (-1009) → Q (some (vI 1)) h11) ∧ ((gI h11 343 16) = (-1009) → (wpN G (d - 1) M_X11_readsType 0 (zar 0 [vR 343, vI p1]) [] h11 (qI (fun z15 h16 => zSh h16 ∧ ((z15 = 0 → Q (some (vI 0)) h16) ∧ (z15 ≠ 0 → Q (some (vI 1)) h16)))))))))))))) ∧ ((gI h2 343 16) = (-1009) → (wpN G (d - 1) M_X11_inBlock 0 (zar 0 [vR 343, vI z1, vI (gI h2 343 20), vI p1]) [] h2 (qI (fun z20 h21 => zSh h21 ∧ ((z20 < 0 → (wpN G (d - 1) M_X11_expects 0 (zar 0 [vR 343, vI 58]) [] h21 (qV (fun h26 => zSh h26 ∧ (wpN G (d - 1) M_X11_writes 0 (zar 0 [vR 343, vI p1, vI 1, vI z1]) [] h26 (qV (fun h30 => zSh h30 ∧ (((gI h30 343 16) ≠ (-1009) → Q (some (vI 1)) h30) ∧ ((gI h30 343 16) = (-1009) → (wpN G (d - 1) M_X11_readsType 0 (zar 0 [vR 343, vI p1]) [] h30 (qI (fun z34 h35 => zSh h35 ∧ ((z34 = 0 → Q (some (vI 0)) h35) ∧ (z34 ≠ 0 → Q (some (vI 1)) h35)))))))))))))) ∧ (0 ≤ z20 → (wpN G (d - 1) M_X11_faults 0 (zar 0 [vR 343, vI (gI h21 343 18)]) [] h21 (qV (fun h40 => zSh h40 ∧ (wpN G (d - 1) M_X11_expects 0 (zar 0 [vR 343, vI 58]) [] h40 (qV (fun h44 => zSh h44 ∧ (wpN G (d - 1) M_X11_writes 0 (zar 0 [vR 343, vI p1, vI 1, vI z1]) [] h44 (qV (fun h48 => zSh h48 ∧ (((gI h48 343 16) ≠ (-1009) → Q (some (vI 1)) h48) ∧ ((gI h48 343 16) = (-1009) → (wpN G (d - 1) M_X11_readsType 0 (zar 0 [vR 343, vI p1]) [] h48 (qI (fun z52 h53 => zSh h53 ∧ ((z52 = 0 → Q (some (vI 0)) h53) ∧ (z52 ≠ 0 → Q (some (vI 1)) h53))))))))))))))))))))))))))) : wpN G d M_X11_readsNamed 0 [(0, vR 343), (1, vI p1)] [] h Q := by
  refine wq_aload_n 0 rfl rfl dX11_readsNamed_0 ?_
  refine wN_V (As := []) vm_X11_name lk_X11_150 tT_343 rfl rfl (Nat.le_of_ble_eq_true rfl) (Nat.le_of_ble_eq_true rfl) (d' := d - 1) (by omega) dX11_readsNamed_1 hv (fun v9 h2 q3 => ?_)
  obtain ⟨z1, rfl, hS4, q3⟩ := q3
  refine wq_st (st' := [vI z1]) rfl ?_
  refine wq_istore_n (ls' := [(0, vR 343), (1, vI p1), (2, vI z1)]) rfl (by decide) rfl dX11_readsNamed_4 ?_
  refine wq_aload_n 0 rfl rfl dX11_readsNamed_5 ?_
  refine wq_getI fk_X11_108 tT_343 (fun _ _ _ => rfl) dX11_readsNamed_6 ?_
  refine wq_sipush (z := -1009) (zlit rfl) rfl dX11_readsNamed_9 ?_
  refine wq_icmp_ne 36 rfl dX11_readsNamed_12 (fun c5 => ?_) (fun c5 => ?_)
  · refine wq_aload_n 0 rfl rfl dX11_readsNamed_36 ?_
    refine wq_bipush (z := 58) (zlit rfl) rfl dX11_readsNamed_37 ?_
    refine wN_V (As := [vI 58]) vm_X11_expects lk_X11_167 tT_343 rfl rfl (Nat.le_of_ble_eq_true rfl) (Nat.le_of_ble_eq_true rfl) (d' := d - 1) (by omega) dX11_readsNamed_39 (q3.1 c5) (fun v9 h7 q8 => ?_)
    obtain ⟨rfl, hS9, q8⟩ := q8
    refine wq_st (st' := []) rfl ?_
    refine wq_aload_n 0 rfl rfl dX11_readsNamed_42 ?_
    refine wq_iload_n 1 rfl rfl dX11_readsNamed_43 ?_
    refine wq_iconst (z := 1) (zlit rfl) dX11_readsNamed_44 ?_
    refine wq_iload_n 2 rfl rfl dX11_readsNamed_45 ?_
    refine wN_V (As := [vI p1, vI 1, vI z1]) vm_X11_writes lk_X11_163 tT_343 rfl rfl (Nat.le_of_ble_eq_true rfl) (Nat.le_of_ble_eq_true rfl) (d' := d - 1) (by omega) dX11_readsNamed_46 q8 (fun v9 h11 q12 => ?_)
    obtain ⟨rfl, hS13, q12⟩ := q12
    refine wq_st (st' := []) rfl ?_
    refine wq_aload_n 0 rfl rfl dX11_readsNamed_49 ?_
    refine wq_getI fk_X11_108 tT_343 (fun _ _ _ => rfl) dX11_readsNamed_50 ?_
    refine wq_sipush (z := -1009) (zlit rfl) rfl dX11_readsNamed_53 ?_
    refine wq_icmp_ne 67 rfl dX11_readsNamed_56 (fun c14 => ?_) (fun c14 => ?_)
    · refine wq_iconst (z := 1) (zlit rfl) dX11_readsNamed_67 ?_
      refine wq_goto 72 rfl dX11_readsNamed_68 ?_
      exact wp_zret (Or.inr rfl) rfl dX11_readsNamed_72 (q12.1 c14)
    · refine wq_aload_n 0 rfl rfl dX11_readsNamed_59 ?_
      refine wq_iload_n 1 rfl rfl dX11_readsNamed_60 ?_
      refine wN_V (As := [vI p1]) vm_X11_readsType lk_X11_192 tT_343 rfl rfl (Nat.le_of_ble_eq_true rfl) (Nat.le_of_ble_eq_true rfl) (d' := d - 1) (by omega) dX11_readsNamed_61 (q12.2 c14) (fun v9 h16 q17 => ?_)
      obtain ⟨z15, rfl, hS18, q17⟩ := q17
      refine wq_st (st' := [vI z15]) rfl ?_
      refine wq_if_eq 71 rfl dX11_readsNamed_64 (fun c19 => ?_) (fun c19 => ?_)
      · refine wq_iconst (z := 0) (zlit rfl) dX11_readsNamed_71 ?_
        exact wp_zret (Or.inl rfl) rfl dX11_readsNamed_72 (q17.1 c19)
      · refine wq_iconst (z := 1) (zlit rfl) dX11_readsNamed_67 ?_
        refine wq_goto 72 rfl dX11_readsNamed_68 ?_
        exact wp_zret (Or.inr rfl) rfl dX11_readsNamed_72 (q17.2 c19)
  · refine wq_aload_n 0 rfl rfl dX11_readsNamed_15 ?_
    refine wq_iload_n 2 rfl rfl dX11_readsNamed_16 ?_
    refine wq_aload_n 0 rfl rfl dX11_readsNamed_17 ?_
    refine wq_getI fk_X11_186 tT_343 (fun _ _ _ => rfl) dX11_readsNamed_18 ?_
    refine wq_iload_n 1 rfl rfl dX11_readsNamed_21 ?_
    refine wN_V (As := [vI z1, vI (gI h2 343 20), vI p1]) vm_X11_inBlock lk_X11_147 tT_343 rfl rfl (Nat.le_of_ble_eq_true rfl) (Nat.le_of_ble_eq_true rfl) (d' := d - 1) (by omega) dX11_readsNamed_22 (q3.2 c5) (fun v9 h21 q22 => ?_)
    obtain ⟨z20, rfl, hS23, q22⟩ := q22
    refine wq_st (st' := [vI z20]) rfl ?_
    refine wq_if_lt 36 rfl dX11_readsNamed_25 (fun c24 => ?_) (fun c24 => ?_)
    · refine wq_aload_n 0 rfl rfl dX11_readsNamed_36 ?_
      refine wq_bipush (z := 58) (zlit rfl) rfl dX11_readsNamed_37 ?_
      refine wN_V (As := [vI 58]) vm_X11_expects lk_X11_167 tT_343 rfl rfl (Nat.le_of_ble_eq_true rfl) (Nat.le_of_ble_eq_true rfl) (d' := d - 1) (by omega) dX11_readsNamed_39 (q22.1 c24) (fun v9 h26 q27 => ?_)
      obtain ⟨rfl, hS28, q27⟩ := q27
      refine wq_st (st' := []) rfl ?_
      refine wq_aload_n 0 rfl rfl dX11_readsNamed_42 ?_
      refine wq_iload_n 1 rfl rfl dX11_readsNamed_43 ?_
      refine wq_iconst (z := 1) (zlit rfl) dX11_readsNamed_44 ?_
      refine wq_iload_n 2 rfl rfl dX11_readsNamed_45 ?_
      refine wN_V (As := [vI p1, vI 1, vI z1]) vm_X11_writes lk_X11_163 tT_343 rfl rfl (Nat.le_of_ble_eq_true rfl) (Nat.le_of_ble_eq_true rfl) (d' := d - 1) (by omega) dX11_readsNamed_46 q27 (fun v9 h30 q31 => ?_)
      obtain ⟨rfl, hS32, q31⟩ := q31
      refine wq_st (st' := []) rfl ?_
      refine wq_aload_n 0 rfl rfl dX11_readsNamed_49 ?_
      refine wq_getI fk_X11_108 tT_343 (fun _ _ _ => rfl) dX11_readsNamed_50 ?_
      refine wq_sipush (z := -1009) (zlit rfl) rfl dX11_readsNamed_53 ?_
      refine wq_icmp_ne 67 rfl dX11_readsNamed_56 (fun c33 => ?_) (fun c33 => ?_)
      · refine wq_iconst (z := 1) (zlit rfl) dX11_readsNamed_67 ?_
        refine wq_goto 72 rfl dX11_readsNamed_68 ?_
        exact wp_zret (Or.inr rfl) rfl dX11_readsNamed_72 (q31.1 c33)
      · refine wq_aload_n 0 rfl rfl dX11_readsNamed_59 ?_
        refine wq_iload_n 1 rfl rfl dX11_readsNamed_60 ?_
        refine wN_V (As := [vI p1]) vm_X11_readsType lk_X11_192 tT_343 rfl rfl (Nat.le_of_ble_eq_true rfl) (Nat.le_of_ble_eq_true rfl) (d' := d - 1) (by omega) dX11_readsNamed_61 (q31.2 c33) (fun v9 h35 q36 => ?_)
        obtain ⟨z34, rfl, hS37, q36⟩ := q36
        refine wq_st (st' := [vI z34]) rfl ?_
        refine wq_if_eq 71 rfl dX11_readsNamed_64 (fun c38 => ?_) (fun c38 => ?_)
        · refine wq_iconst (z := 0) (zlit rfl) dX11_readsNamed_71 ?_
          exact wp_zret (Or.inl rfl) rfl dX11_readsNamed_72 (q36.1 c38)
        · refine wq_iconst (z := 1) (zlit rfl) dX11_readsNamed_67 ?_
          refine wq_goto 72 rfl dX11_readsNamed_68 ?_
          exact wp_zret (Or.inr rfl) rfl dX11_readsNamed_72 (q36.2 c38)
    · refine wq_aload_n 0 rfl rfl dX11_readsNamed_28 ?_
      refine wq_aload_n 0 rfl rfl dX11_readsNamed_29 ?_
      refine wq_getI fk_X11_132 tT_343 (fun _ _ _ => rfl) dX11_readsNamed_30 ?_
      refine wN_V (As := [vI (gI h21 343 18)]) vm_X11_faults lk_X11_118 tT_343 rfl rfl (Nat.le_of_ble_eq_true rfl) (Nat.le_of_ble_eq_true rfl) (d' := d - 1) (by omega) dX11_readsNamed_33 (q22.2 c24) (fun v9 h40 q41 => ?_)
      obtain ⟨rfl, hS42, q41⟩ := q41
      refine wq_st (st' := []) rfl ?_
      refine wq_aload_n 0 rfl rfl dX11_readsNamed_36 ?_
      refine wq_bipush (z := 58) (zlit rfl) rfl dX11_readsNamed_37 ?_
      refine wN_V (As := [vI 58]) vm_X11_expects lk_X11_167 tT_343 rfl rfl (Nat.le_of_ble_eq_true rfl) (Nat.le_of_ble_eq_true rfl) (d' := d - 1) (by omega) dX11_readsNamed_39 q41 (fun v9 h44 q45 => ?_)
      obtain ⟨rfl, hS46, q45⟩ := q45
      refine wq_st (st' := []) rfl ?_
      refine wq_aload_n 0 rfl rfl dX11_readsNamed_42 ?_
      refine wq_iload_n 1 rfl rfl dX11_readsNamed_43 ?_
      refine wq_iconst (z := 1) (zlit rfl) dX11_readsNamed_44 ?_
      refine wq_iload_n 2 rfl rfl dX11_readsNamed_45 ?_
      refine wN_V (As := [vI p1, vI 1, vI z1]) vm_X11_writes lk_X11_163 tT_343 rfl rfl (Nat.le_of_ble_eq_true rfl) (Nat.le_of_ble_eq_true rfl) (d' := d - 1) (by omega) dX11_readsNamed_46 q45 (fun v9 h48 q49 => ?_)
      obtain ⟨rfl, hS50, q49⟩ := q49
      refine wq_st (st' := []) rfl ?_
      refine wq_aload_n 0 rfl rfl dX11_readsNamed_49 ?_
      refine wq_getI fk_X11_108 tT_343 (fun _ _ _ => rfl) dX11_readsNamed_50 ?_
      refine wq_sipush (z := -1009) (zlit rfl) rfl dX11_readsNamed_53 ?_
      refine wq_icmp_ne 67 rfl dX11_readsNamed_56 (fun c51 => ?_) (fun c51 => ?_)
      · refine wq_iconst (z := 1) (zlit rfl) dX11_readsNamed_67 ?_
        refine wq_goto 72 rfl dX11_readsNamed_68 ?_
        exact wp_zret (Or.inr rfl) rfl dX11_readsNamed_72 (q49.1 c51)
      · refine wq_aload_n 0 rfl rfl dX11_readsNamed_59 ?_
        refine wq_iload_n 1 rfl rfl dX11_readsNamed_60 ?_
        refine wN_V (As := [vI p1]) vm_X11_readsType lk_X11_192 tT_343 rfl rfl (Nat.le_of_ble_eq_true rfl) (Nat.le_of_ble_eq_true rfl) (d' := d - 1) (by omega) dX11_readsNamed_61 (q49.2 c51) (fun v9 h53 q54 => ?_)
        obtain ⟨z52, rfl, hS55, q54⟩ := q54
        refine wq_st (st' := [vI z52]) rfl ?_
        refine wq_if_eq 71 rfl dX11_readsNamed_64 (fun c56 => ?_) (fun c56 => ?_)
        · refine wq_iconst (z := 0) (zlit rfl) dX11_readsNamed_71 ?_
          exact wp_zret (Or.inl rfl) rfl dX11_readsNamed_72 (q54.1 c56)
        · refine wq_iconst (z := 1) (zlit rfl) dX11_readsNamed_67 ?_
          refine wq_goto 72 rfl dX11_readsNamed_68 ?_
          exact wp_zret (Or.inr rfl) rfl dX11_readsNamed_72 (q54.2 c56)
theorem dX11_closes_0 : decode cX11_closes 0 = .ok (.aload_n 0, 1) := by decide +kernel
theorem dX11_closes_1 : decode cX11_closes 1 = .ok (.bipush 125, 2) := by decide +kernel
theorem dX11_closes_3 : decode cX11_closes 3 = .ok (.invokevirtual 114, 3) := by decide +kernel
theorem dX11_closes_6 : decode cX11_closes 6 = .ok (.pop, 1) := by decide +kernel
theorem dX11_closes_7 : decode cX11_closes 7 = .ok (.aload_n 0, 1) := by decide +kernel
theorem dX11_closes_8 : decode cX11_closes 8 = .ok (.getfield 186, 3) := by decide +kernel
theorem dX11_closes_11 : decode cX11_closes 11 = .ok (.istore_n 1, 1) := by decide +kernel
theorem dX11_closes_12 : decode cX11_closes 12 = .ok (.aload_n 0, 1) := by decide +kernel
theorem dX11_closes_13 : decode cX11_closes 13 = .ok (.dup, 1) := by decide +kernel
theorem dX11_closes_14 : decode cX11_closes 14 = .ok (.getfield 183, 3) := by decide +kernel
theorem dX11_closes_17 : decode cX11_closes 17 = .ok (.iconst 1, 1) := by decide +kernel
theorem dX11_closes_18 : decode cX11_closes 18 = .ok (.isub, 1) := by decide +kernel
theorem dX11_closes_19 : decode cX11_closes 19 = .ok (.putfield 183, 3) := by decide +kernel
theorem dX11_closes_22 : decode cX11_closes 22 = .ok (.aload_n 0, 1) := by decide +kernel
theorem dX11_closes_23 : decode cX11_closes 23 = .ok (.aload_n 0, 1) := by decide +kernel
theorem dX11_closes_24 : decode cX11_closes 24 = .ok (.iload_n 1, 1) := by decide +kernel
theorem dX11_closes_25 : decode cX11_closes 25 = .ok (.bipush 13, 2) := by decide +kernel
theorem dX11_closes_27 : decode cX11_closes 27 = .ok (.invokevirtual 143, 3) := by decide +kernel
theorem dX11_closes_30 : decode cX11_closes 30 = .ok (.putfield 186, 3) := by decide +kernel
theorem dX11_closes_33 : decode cX11_closes 33 = .ok (.aload_n 0, 1) := by decide +kernel
theorem dX11_closes_34 : decode cX11_closes 34 = .ok (.iload_n 1, 1) := by decide +kernel
theorem dX11_closes_35 : decode cX11_closes 35 = .ok (.bipush 9, 2) := by decide +kernel
theorem dX11_closes_37 : decode cX11_closes 37 = .ok (.aload_n 0, 1) := by decide +kernel
theorem dX11_closes_38 : decode cX11_closes 38 = .ok (.getfield 34, 3) := by decide +kernel
theorem dX11_closes_41 : decode cX11_closes 41 = .ok (.iconst 4, 1) := by decide +kernel
theorem dX11_closes_42 : decode cX11_closes 42 = .ok (.iaload, 1) := by decide +kernel
theorem dX11_closes_43 : decode cX11_closes 43 = .ok (.invokevirtual 163, 3) := by decide +kernel
theorem dX11_closes_46 : decode cX11_closes 46 = .ok (.aload_n 0, 1) := by decide +kernel
theorem dX11_closes_47 : decode cX11_closes 47 = .ok (.iload_n 1, 1) := by decide +kernel
theorem dX11_closes_48 : decode cX11_closes 48 = .ok (.invokevirtual 173, 3) := by decide +kernel
theorem dX11_closes_51 : decode cX11_closes 51 = .ok (.aload_n 0, 1) := by decide +kernel
theorem dX11_closes_52 : decode cX11_closes 52 = .ok (.bipush 59, 2) := by decide +kernel
theorem dX11_closes_54 : decode cX11_closes 54 = .ok (.invokevirtual 167, 3) := by decide +kernel
theorem dX11_closes_57 : decode cX11_closes 57 = .ok (.return_, 1) := by decide +kernel
theorem vc_X11_closes_0 {G : zG} {d : Nat} {Q : Option zV → zHp → Prop}  (h : zHp) (hS : zSh h) (hd : 6 ≤ d)  
    (hv : (wpN G (d - 1) M_X11_takes 0 (zar 0 [vR 343, vI 125]) [] h (qI (fun z1 h2 => zSh h2 ∧ (∀ x5 : Int, x5 = (gI h2 343 20) → ((-2147483648 ≤ (gI h2 343 19) - 1 ∧ (gI h2 343 19) - 1 ≤ 2147483647) ∧ (∀ h7 : zHp, h7 = sI h2 343 19 ((gI h2 343 19) - 1) → (wpN G (d - 1) M_X11_readOf 0 (zar 0 [vR 343, vI x5, vI 13]) [] h7 (qI (fun z9 h10 => zSh h10 ∧ (∀ h13 : zHp, h13 = sI h10 343 20 z9 → (wpN G (d - 1) M_X11_writes 0 (zar 0 [vR 343, vI x5, vI 9, vI (gI h13 352 4)]) [] h13 (qV (fun h16 => zSh h16 ∧ (wpN G (d - 1) M_X11_readsCount 0 (zar 0 [vR 343, vI x5]) [] h16 (qV (fun h20 => zSh h20 ∧ (wpN G (d - 1) M_X11_expects 0 (zar 0 [vR 343, vI 59]) [] h20 (qV (fun h24 => zSh h24 ∧ Q none h24)))))))))))))))))))) : wpN G d M_X11_closes 0 [(0, vR 343)] [] h Q := by
  refine wq_aload_n 0 rfl rfl dX11_closes_0 ?_
  refine wq_bipush (z := 125) (zlit rfl) rfl dX11_closes_1 ?_
  refine wN_V (As := [vI 125]) vm_X11_takes lk_X11_114 tT_343 rfl rfl (Nat.le_of_ble_eq_true rfl) (Nat.le_of_ble_eq_true rfl) (d' := d - 1) (by omega) dX11_closes_3 hv (fun v9 h2 q3 => ?_)
  obtain ⟨z1, rfl, hS4, q3⟩ := q3
  refine wq_st (st' := [vI z1]) rfl ?_
  refine wq_pop rfl dX11_closes_6 ?_
  refine wq_aload_n 0 rfl rfl dX11_closes_7 ?_
  refine wq_getI fk_X11_186 tT_343 (fun _ _ _ => rfl) dX11_closes_8 ?_
  refine wq_topI (fun x5 e6 => ?_)
  refine wq_istore_n (ls' := [(0, vR 343), (1, vI x5)]) rfl (by decide) rfl dX11_closes_11 ?_
  refine wq_aload_n 0 rfl rfl dX11_closes_12 ?_
  refine wq_dup rfl dX11_closes_13 ?_
  refine wq_getI fk_X11_183 tT_343 (fun _ _ _ => rfl) dX11_closes_14 ?_
  refine wq_iconst (z := 1) (zlit rfl) dX11_closes_17 ?_
  refine wq_isub (q3 x5 e6).1 dX11_closes_18 ?_
  refine wq_putI fk_X11_183 tT_343 rfl rfl dX11_closes_19 ?_
  refine wq_toph (fun h7 e8 => ?_)
  have sh7 : zSh h7 := zSh_of e8 hS4
  refine wq_aload_n 0 rfl rfl dX11_closes_22 ?_
  refine wq_aload_n 0 rfl rfl dX11_closes_23 ?_
  refine wq_iload_n 1 rfl rfl dX11_closes_24 ?_
  refine wq_bipush (z := 13) (zlit rfl) rfl dX11_closes_25 ?_
  refine wN_V (As := [vI x5, vI 13]) vm_X11_readOf lk_X11_143 tT_343 rfl rfl (Nat.le_of_ble_eq_true rfl) (Nat.le_of_ble_eq_true rfl) (d' := d - 1) (by omega) dX11_closes_27 ((q3 x5 e6).2 h7 e8) (fun v9 h10 q11 => ?_)
  obtain ⟨z9, rfl, hS12, q11⟩ := q11
  refine wq_st (st' := [vI z9, vR 343]) rfl ?_
  refine wq_putI fk_X11_186 tT_343 rfl rfl dX11_closes_30 ?_
  refine wq_toph (fun h13 e14 => ?_)
  have sh13 : zSh h13 := zSh_of e14 hS12
  refine wq_aload_n 0 rfl rfl dX11_closes_33 ?_
  refine wq_iload_n 1 rfl rfl dX11_closes_34 ?_
  refine wq_bipush (z := 9) (zlit rfl) rfl dX11_closes_35 ?_
  refine wq_aload_n 0 rfl rfl dX11_closes_37 ?_
  refine wq_getR fk_X11_34 tT_343 (fun _ _ _ => rfl) (sh_11_14 sh13) (by decide) dX11_closes_38 ?_
  refine wq_iconst (z := 4) (zlit rfl) dX11_closes_41 ?_
  refine wq_iald tT_352 (by decide) (by decide) dX11_closes_42 ?_
  refine wN_V (As := [vI x5, vI 9, vI (gI h13 352 4)]) vm_X11_writes lk_X11_163 tT_343 rfl rfl (Nat.le_of_ble_eq_true rfl) (Nat.le_of_ble_eq_true rfl) (d' := d - 1) (by omega) dX11_closes_43 (q11 h13 e14) (fun v9 h16 q17 => ?_)
  obtain ⟨rfl, hS18, q17⟩ := q17
  refine wq_st (st' := []) rfl ?_
  refine wq_aload_n 0 rfl rfl dX11_closes_46 ?_
  refine wq_iload_n 1 rfl rfl dX11_closes_47 ?_
  refine wN_V (As := [vI x5]) vm_X11_readsCount lk_X11_173 tT_343 rfl rfl (Nat.le_of_ble_eq_true rfl) (Nat.le_of_ble_eq_true rfl) (d' := d - 1) (by omega) dX11_closes_48 q17 (fun v9 h20 q21 => ?_)
  obtain ⟨rfl, hS22, q21⟩ := q21
  refine wq_st (st' := []) rfl ?_
  refine wq_aload_n 0 rfl rfl dX11_closes_51 ?_
  refine wq_bipush (z := 59) (zlit rfl) rfl dX11_closes_52 ?_
  refine wN_V (As := [vI 59]) vm_X11_expects lk_X11_167 tT_343 rfl rfl (Nat.le_of_ble_eq_true rfl) (Nat.le_of_ble_eq_true rfl) (d' := d - 1) (by omega) dX11_closes_54 q21 (fun v9 h24 q25 => ?_)
  obtain ⟨rfl, hS26, q25⟩ := q25
  refine wq_st (st' := []) rfl ?_
  exact wp_vret rfl dX11_closes_57 q25
theorem dX11_templateFault_0 : decode cX11_templateFault 0 = .ok (.aload_n 0, 1) := by decide +kernel
theorem dX11_templateFault_1 : decode cX11_templateFault 1 = .ok (.iconst 0, 1) := by decide +kernel
theorem dX11_templateFault_2 : decode cX11_templateFault 2 = .ok (.putfield 101, 3) := by decide +kernel
theorem dX11_templateFault_5 : decode cX11_templateFault 5 = .ok (.aload_n 0, 1) := by decide +kernel
theorem dX11_templateFault_6 : decode cX11_templateFault 6 = .ok (.sipush (-1009), 3) := by decide +kernel
theorem dX11_templateFault_9 : decode cX11_templateFault 9 = .ok (.putfield 108, 3) := by decide +kernel
theorem dX11_templateFault_12 : decode cX11_templateFault 12 = .ok (.aload_n 0, 1) := by decide +kernel
theorem dX11_templateFault_13 : decode cX11_templateFault 13 = .ok (.getfield 34, 3) := by decide +kernel
theorem dX11_templateFault_16 : decode cX11_templateFault 16 = .ok (.iconst 4, 1) := by decide +kernel
theorem dX11_templateFault_17 : decode cX11_templateFault 17 = .ok (.iconst 0, 1) := by decide +kernel
theorem dX11_templateFault_18 : decode cX11_templateFault 18 = .ok (.iastore, 1) := by decide +kernel
theorem dX11_templateFault_19 : decode cX11_templateFault 19 = .ok (.aload_n 0, 1) := by decide +kernel
theorem dX11_templateFault_20 : decode cX11_templateFault 20 = .ok (.iconst 0, 1) := by decide +kernel
theorem dX11_templateFault_21 : decode cX11_templateFault 21 = .ok (.putfield 183, 3) := by decide +kernel
theorem dX11_templateFault_24 : decode cX11_templateFault 24 = .ok (.aload_n 0, 1) := by decide +kernel
theorem dX11_templateFault_25 : decode cX11_templateFault 25 = .ok (.iconst (-1), 1) := by decide +kernel
theorem dX11_templateFault_26 : decode cX11_templateFault 26 = .ok (.putfield 186, 3) := by decide +kernel
theorem dX11_templateFault_29 : decode cX11_templateFault 29 = .ok (.aload_n 0, 1) := by decide +kernel
theorem dX11_templateFault_30 : decode cX11_templateFault 30 = .ok (.invokevirtual 111, 3) := by decide +kernel
theorem dX11_templateFault_33 : decode cX11_templateFault 33 = .ok (.aload_n 0, 1) := by decide +kernel
theorem dX11_templateFault_34 : decode cX11_templateFault 34 = .ok (.getfield 108, 3) := by decide +kernel
theorem dX11_templateFault_37 : decode cX11_templateFault 37 = .ok (.sipush (-1009), 3) := by decide +kernel
theorem dX11_templateFault_40 : decode cX11_templateFault 40 = .ok (.if_icmp .ne 51, 3) := by decide +kernel
theorem dX11_templateFault_43 : decode cX11_templateFault 43 = .ok (.aload_n 0, 1) := by decide +kernel
theorem dX11_templateFault_44 : decode cX11_templateFault 44 = .ok (.getfield 101, 3) := by decide +kernel
theorem dX11_templateFault_47 : decode cX11_templateFault 47 = .ok (.aload_n 0, 1) := by decide +kernel
theorem dX11_templateFault_48 : decode cX11_templateFault 48 = .ok (.getfield 97, 3) := by decide +kernel
theorem dX11_templateFault_51 : decode cX11_templateFault 51 = .ok (.if_icmp .lt 10, 3) := by decide +kernel
theorem dX11_templateFault_54 : decode cX11_templateFault 54 = .ok (.aload_n 0, 1) := by decide +kernel
theorem dX11_templateFault_55 : decode cX11_templateFault 55 = .ok (.getfield 183, 3) := by decide +kernel
theorem dX11_templateFault_58 : decode cX11_templateFault 58 = .ok (.ifCond .le 33, 3) := by decide +kernel
theorem dX11_templateFault_61 : decode cX11_templateFault 61 = .ok (.aload_n 0, 1) := by decide +kernel
theorem dX11_templateFault_62 : decode cX11_templateFault 62 = .ok (.invokevirtual 104, 3) := by decide +kernel
theorem dX11_templateFault_65 : decode cX11_templateFault 65 = .ok (.bipush 125, 2) := by decide +kernel
theorem dX11_templateFault_67 : decode cX11_templateFault 67 = .ok (.if_icmp .ne 17, 3) := by decide +kernel
theorem dX11_templateFault_70 : decode cX11_templateFault 70 = .ok (.aload_n 0, 1) := by decide +kernel
theorem dX11_templateFault_71 : decode cX11_templateFault 71 = .ok (.getfield 183, 3) := by decide +kernel
theorem dX11_templateFault_74 : decode cX11_templateFault 74 = .ok (.ifCond .le 10, 3) := by decide +kernel
theorem dX11_templateFault_77 : decode cX11_templateFault 77 = .ok (.aload_n 0, 1) := by decide +kernel
theorem dX11_templateFault_78 : decode cX11_templateFault 78 = .ok (.invokevirtual 195, 3) := by decide +kernel
theorem dX11_templateFault_81 : decode cX11_templateFault 81 = .ok (.goto (-48), 3) := by decide +kernel
theorem dX11_templateFault_84 : decode cX11_templateFault 84 = .ok (.aload_n 0, 1) := by decide +kernel
theorem dX11_templateFault_85 : decode cX11_templateFault 85 = .ok (.invokevirtual 198, 3) := by decide +kernel
theorem dX11_templateFault_88 : decode cX11_templateFault 88 = .ok (.goto (-55), 3) := by decide +kernel
theorem dX11_templateFault_91 : decode cX11_templateFault 91 = .ok (.aload_n 0, 1) := by decide +kernel
theorem dX11_templateFault_92 : decode cX11_templateFault 92 = .ok (.getfield 108, 3) := by decide +kernel
theorem dX11_templateFault_95 : decode cX11_templateFault 95 = .ok (.ireturn, 1) := by decide +kernel
theorem vc_X11_templateFault_0 {G : zG} {d : Nat} {Q : Option zV → zHp → Prop}  (h : zHp) (hS : zSh h) (hd : 10 ≤ d) (I_33 : zHp → Prop) (hI_33 : ∀  (h' : zHp), I_33  h' → wpN G d M_X11_templateFault 33 [(0, vR 343)] [] h' Q) 
    (hv : (∀ h1 : zHp, h1 = sI h 343 15 0 → (∀ h3 : zHp, h3 = sI h1 343 16 (-1009) → (∀ h5 : zHp, h5 = sI h3 352 4 0 → (∀ h7 : zHp, h7 = sI h5 343 19 0 → (∀ h9 : zHp, h9 = sI h7 343 20 (-1) → (wpN G (d - 1) M_X11_blanks 0 (zar 0 [vR 343]) [] h9 (qV (fun h12 => zSh h12 ∧ (zSh h12 → I_33  h12)))))))))) : wpN G d M_X11_templateFault 0 [(0, vR 343)] [] h Q := by
  refine wq_aload_n 0 rfl rfl dX11_templateFault_0 ?_
  refine wq_iconst (z := 0) (zlit rfl) dX11_templateFault_1 ?_
  refine wq_putI fk_X11_101 tT_343 rfl rfl dX11_templateFault_2 ?_
  refine wq_toph (fun h1 e2 => ?_)
  have sh1 : zSh h1 := zSh_of e2 hS
  refine wq_aload_n 0 rfl rfl dX11_templateFault_5 ?_
  refine wq_sipush (z := -1009) (zlit rfl) rfl dX11_templateFault_6 ?_
  refine wq_putI fk_X11_108 tT_343 rfl rfl dX11_templateFault_9 ?_
  refine wq_toph (fun h3 e4 => ?_)
  have sh3 : zSh h3 := zSh_of e4 sh1
  refine wq_aload_n 0 rfl rfl dX11_templateFault_12 ?_
  refine wq_getR fk_X11_34 tT_343 (fun _ _ _ => rfl) (sh_11_14 sh3) (by decide) dX11_templateFault_13 ?_
  refine wq_iconst (z := 4) (zlit rfl) dX11_templateFault_16 ?_
  refine wq_iconst (z := 0) (zlit rfl) dX11_templateFault_17 ?_
  refine wq_iast tT_352 (by decide) (by decide) dX11_templateFault_18 ?_
  refine wq_toph (fun h5 e6 => ?_)
  have sh5 : zSh h5 := zSh_of e6 sh3
  refine wq_aload_n 0 rfl rfl dX11_templateFault_19 ?_
  refine wq_iconst (z := 0) (zlit rfl) dX11_templateFault_20 ?_
  refine wq_putI fk_X11_183 tT_343 rfl rfl dX11_templateFault_21 ?_
  refine wq_toph (fun h7 e8 => ?_)
  have sh7 : zSh h7 := zSh_of e8 sh5
  refine wq_aload_n 0 rfl rfl dX11_templateFault_24 ?_
  refine wq_iconst (z := -1) (zlit rfl) dX11_templateFault_25 ?_
  refine wq_putI fk_X11_186 tT_343 rfl rfl dX11_templateFault_26 ?_
  refine wq_toph (fun h9 e10 => ?_)
  have sh9 : zSh h9 := zSh_of e10 sh7
  refine wq_aload_n 0 rfl rfl dX11_templateFault_29 ?_
  refine wN_V (As := []) vm_X11_blanks lk_X11_111 tT_343 rfl rfl (Nat.le_of_ble_eq_true rfl) (Nat.le_of_ble_eq_true rfl) (d' := d - 1) (by omega) dX11_templateFault_30 (((((hv h1 e2) h3 e4) h5 e6) h7 e8) h9 e10) (fun v9 h12 q13 => ?_)
  obtain ⟨rfl, hS14, q13⟩ := q13
  refine wq_st (st' := []) rfl ?_
  exact wq_pick [0] rfl (hI_33  h12 (q13 hS14))
theorem vc_X11_templateFault_33 {G : zG} {d : Nat} {Q : Option zV → zHp → Prop}  (h : zHp) (hS : zSh h) (hd : 10 ≤ d) (I_33 : zHp → Prop) (hI_33 : ∀  (h' : zHp), I_33  h' → wpN G d M_X11_templateFault 33 [(0, vR 343)] [] h' Q) 
    (hv : (((gI h 343 16) ≠ (-1009) → Q (some (vI (gI h 343 16))) h) ∧ ((gI h 343 16) = (-1009) → (((gI h 343 15) < (gI h 343 12) → (wpN G (d - 1) M_X11_next 0 (zar 0 [vR 343]) [] h (qI (fun z3 h4 => zSh h4 ∧ ((z3 ≠ 125 → (wpN G (d - 1) M_X11_readsItem 0 (zar 0 [vR 343]) [] h4 (qV (fun h9 => zSh h9 ∧ (zSh h9 → I_33  h9))))) ∧ (z3 = 125 → (((gI h4 343 19) ≤ 0 → (wpN G (d - 1) M_X11_readsItem 0 (zar 0 [vR 343]) [] h4 (qV (fun h14 => zSh h14 ∧ (zSh h14 → I_33  h14))))) ∧ (0 < (gI h4 343 19) → (wpN G (d - 1) M_X11_closes 0 (zar 0 [vR 343]) [] h4 (qV (fun h18 => zSh h18 ∧ (zSh h18 → I_33  h18)))))))))))) ∧ ((gI h 343 12) ≤ (gI h 343 15) → (((gI h 343 19) ≤ 0 → Q (some (vI (gI h 343 16))) h) ∧ (0 < (gI h 343 19) → (wpN G (d - 1) M_X11_next 0 (zar 0 [vR 343]) [] h (qI (fun z22 h23 => zSh h23 ∧ ((z22 ≠ 125 → (wpN G (d - 1) M_X11_readsItem 0 (zar 0 [vR 343]) [] h23 (qV (fun h28 => zSh h28 ∧ (zSh h28 → I_33  h28))))) ∧ (z22 = 125 → (((gI h23 343 19) ≤ 0 → (wpN G (d - 1) M_X11_readsItem 0 (zar 0 [vR 343]) [] h23 (qV (fun h33 => zSh h33 ∧ (zSh h33 → I_33  h33))))) ∧ (0 < (gI h23 343 19) → (wpN G (d - 1) M_X11_closes 0 (zar 0 [vR 343]) [] h23 (qV (fun h37 => zSh h37 ∧ (zSh h37 → I_33  h37)))))))))))))))))) : wpN G d M_X11_templateFault 33 [(0, vR 343)] [] h Q := by
  refine wq_aload_n 0 rfl rfl dX11_templateFault_33 ?_
  refine wq_getI fk_X11_108 tT_343 (fun _ _ _ => rfl) dX11_templateFault_34 ?_
  refine wq_sipush (z := -1009) (zlit rfl) rfl dX11_templateFault_37 ?_
  refine wq_icmp_ne 91 rfl dX11_templateFault_40 (fun c1 => ?_) (fun c1 => ?_)
  · refine wq_aload_n 0 rfl rfl dX11_templateFault_91 ?_
    refine wq_getI fk_X11_108 tT_343 (fun _ _ _ => rfl) dX11_templateFault_92 ?_
    exact wp_iret rfl dX11_templateFault_95 (hv.1 c1)
  · refine wq_aload_n 0 rfl rfl dX11_templateFault_43 ?_
    refine wq_getI fk_X11_101 tT_343 (fun _ _ _ => rfl) dX11_templateFault_44 ?_
    refine wq_aload_n 0 rfl rfl dX11_templateFault_47 ?_
    refine wq_getI fk_X11_97 tT_343 (fun _ _ _ => rfl) dX11_templateFault_48 ?_
    refine wq_icmp_lt 61 rfl dX11_templateFault_51 (fun c2 => ?_) (fun c2 => ?_)
    · refine wq_aload_n 0 rfl rfl dX11_templateFault_61 ?_
      refine wN_V (As := []) vm_X11_next lk_X11_104 tT_343 rfl rfl (Nat.le_of_ble_eq_true rfl) (Nat.le_of_ble_eq_true rfl) (d' := d - 1) (by omega) dX11_templateFault_62 ((hv.2 c1).1 c2) (fun v9 h4 q5 => ?_)
      obtain ⟨z3, rfl, hS6, q5⟩ := q5
      refine wq_st (st' := [vI z3]) rfl ?_
      refine wq_bipush (z := 125) (zlit rfl) rfl dX11_templateFault_65 ?_
      refine wq_icmp_ne 84 rfl dX11_templateFault_67 (fun c7 => ?_) (fun c7 => ?_)
      · refine wq_aload_n 0 rfl rfl dX11_templateFault_84 ?_
        refine wN_V (As := []) vm_X11_readsItem lk_X11_198 tT_343 rfl rfl (Nat.le_of_ble_eq_true rfl) (Nat.le_of_ble_eq_true rfl) (d' := d - 1) (by omega) dX11_templateFault_85 (q5.1 c7) (fun v9 h9 q10 => ?_)
        obtain ⟨rfl, hS11, q10⟩ := q10
        refine wq_st (st' := []) rfl ?_
        refine wq_goto 33 rfl dX11_templateFault_88 ?_
        exact wq_pick [0] rfl (hI_33  h9 (q10 hS11))
      · refine wq_aload_n 0 rfl rfl dX11_templateFault_70 ?_
        refine wq_getI fk_X11_183 tT_343 (fun _ _ _ => rfl) dX11_templateFault_71 ?_
        refine wq_if_le 84 rfl dX11_templateFault_74 (fun c12 => ?_) (fun c12 => ?_)
        · refine wq_aload_n 0 rfl rfl dX11_templateFault_84 ?_
          refine wN_V (As := []) vm_X11_readsItem lk_X11_198 tT_343 rfl rfl (Nat.le_of_ble_eq_true rfl) (Nat.le_of_ble_eq_true rfl) (d' := d - 1) (by omega) dX11_templateFault_85 ((q5.2 c7).1 c12) (fun v9 h14 q15 => ?_)
          obtain ⟨rfl, hS16, q15⟩ := q15
          refine wq_st (st' := []) rfl ?_
          refine wq_goto 33 rfl dX11_templateFault_88 ?_
          exact wq_pick [0] rfl (hI_33  h14 (q15 hS16))
        · refine wq_aload_n 0 rfl rfl dX11_templateFault_77 ?_
          refine wN_V (As := []) vm_X11_closes lk_X11_195 tT_343 rfl rfl (Nat.le_of_ble_eq_true rfl) (Nat.le_of_ble_eq_true rfl) (d' := d - 1) (by omega) dX11_templateFault_78 ((q5.2 c7).2 c12) (fun v9 h18 q19 => ?_)
          obtain ⟨rfl, hS20, q19⟩ := q19
          refine wq_st (st' := []) rfl ?_
          refine wq_goto 33 rfl dX11_templateFault_81 ?_
          exact wq_pick [0] rfl (hI_33  h18 (q19 hS20))
    · refine wq_aload_n 0 rfl rfl dX11_templateFault_54 ?_
      refine wq_getI fk_X11_183 tT_343 (fun _ _ _ => rfl) dX11_templateFault_55 ?_
      refine wq_if_le 91 rfl dX11_templateFault_58 (fun c21 => ?_) (fun c21 => ?_)
      · refine wq_aload_n 0 rfl rfl dX11_templateFault_91 ?_
        refine wq_getI fk_X11_108 tT_343 (fun _ _ _ => rfl) dX11_templateFault_92 ?_
        exact wp_iret rfl dX11_templateFault_95 (((hv.2 c1).2 c2).1 c21)
      · refine wq_aload_n 0 rfl rfl dX11_templateFault_61 ?_
        refine wN_V (As := []) vm_X11_next lk_X11_104 tT_343 rfl rfl (Nat.le_of_ble_eq_true rfl) (Nat.le_of_ble_eq_true rfl) (d' := d - 1) (by omega) dX11_templateFault_62 (((hv.2 c1).2 c2).2 c21) (fun v9 h23 q24 => ?_)
        obtain ⟨z22, rfl, hS25, q24⟩ := q24
        refine wq_st (st' := [vI z22]) rfl ?_
        refine wq_bipush (z := 125) (zlit rfl) rfl dX11_templateFault_65 ?_
        refine wq_icmp_ne 84 rfl dX11_templateFault_67 (fun c26 => ?_) (fun c26 => ?_)
        · refine wq_aload_n 0 rfl rfl dX11_templateFault_84 ?_
          refine wN_V (As := []) vm_X11_readsItem lk_X11_198 tT_343 rfl rfl (Nat.le_of_ble_eq_true rfl) (Nat.le_of_ble_eq_true rfl) (d' := d - 1) (by omega) dX11_templateFault_85 (q24.1 c26) (fun v9 h28 q29 => ?_)
          obtain ⟨rfl, hS30, q29⟩ := q29
          refine wq_st (st' := []) rfl ?_
          refine wq_goto 33 rfl dX11_templateFault_88 ?_
          exact wq_pick [0] rfl (hI_33  h28 (q29 hS30))
        · refine wq_aload_n 0 rfl rfl dX11_templateFault_70 ?_
          refine wq_getI fk_X11_183 tT_343 (fun _ _ _ => rfl) dX11_templateFault_71 ?_
          refine wq_if_le 84 rfl dX11_templateFault_74 (fun c31 => ?_) (fun c31 => ?_)
          · refine wq_aload_n 0 rfl rfl dX11_templateFault_84 ?_
            refine wN_V (As := []) vm_X11_readsItem lk_X11_198 tT_343 rfl rfl (Nat.le_of_ble_eq_true rfl) (Nat.le_of_ble_eq_true rfl) (d' := d - 1) (by omega) dX11_templateFault_85 ((q24.2 c26).1 c31) (fun v9 h33 q34 => ?_)
            obtain ⟨rfl, hS35, q34⟩ := q34
            refine wq_st (st' := []) rfl ?_
            refine wq_goto 33 rfl dX11_templateFault_88 ?_
            exact wq_pick [0] rfl (hI_33  h33 (q34 hS35))
          · refine wq_aload_n 0 rfl rfl dX11_templateFault_77 ?_
            refine wN_V (As := []) vm_X11_closes lk_X11_195 tT_343 rfl rfl (Nat.le_of_ble_eq_true rfl) (Nat.le_of_ble_eq_true rfl) (d' := d - 1) (by omega) dX11_templateFault_78 ((q24.2 c26).2 c31) (fun v9 h37 q38 => ?_)
            obtain ⟨rfl, hS39, q38⟩ := q38
            refine wq_st (st' := []) rfl ?_
            refine wq_goto 33 rfl dX11_templateFault_81 ?_
            exact wq_pick [0] rfl (hI_33  h37 (q38 hS39))
