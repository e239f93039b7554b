theorem dX11_laysOut_0 : decode cX11_laysOut 0 = .ok (.aload_n 0, 1) := by decide +kernel
theorem dX11_laysOut_1 : decode cX11_laysOut 1 = .ok (.iload_n 1, 1) := by decide +kernel
theorem dX11_laysOut_2 : decode cX11_laysOut 2 = .ok (.invokevirtual 207, 3) := by decide +kernel
theorem dX11_laysOut_5 : decode cX11_laysOut 5 = .ok (.istore_n 2, 1) := by decide +kernel
theorem dX11_laysOut_6 : decode cX11_laysOut 6 = .ok (.aload_n 0, 1) := by decide +kernel
theorem dX11_laysOut_7 : decode cX11_laysOut 7 = .ok (.iload_n 1, 1) := by decide +kernel
theorem dX11_laysOut_8 : decode cX11_laysOut 8 = .ok (.invokevirtual 275, 3) := by decide +kernel
theorem dX11_laysOut_11 : decode cX11_laysOut 11 = .ok (.istore_n 3, 1) := by decide +kernel
theorem dX11_laysOut_12 : decode cX11_laysOut 12 = .ok (.iconst 0, 1) := by decide +kernel
theorem dX11_laysOut_13 : decode cX11_laysOut 13 = .ok (.istore 4, 2) := by decide +kernel
theorem dX11_laysOut_15 : decode cX11_laysOut 15 = .ok (.aload_n 0, 1) := by decide +kernel
theorem dX11_laysOut_16 : decode cX11_laysOut 16 = .ok (.iconst 0, 1) := by decide +kernel
theorem dX11_laysOut_17 : decode cX11_laysOut 17 = .ok (.putfield 235, 3) := by decide +kernel
theorem dX11_laysOut_20 : decode cX11_laysOut 20 = .ok (.aload_n 0, 1) := by decide +kernel
theorem dX11_laysOut_21 : decode cX11_laysOut 21 = .ok (.iconst 0, 1) := by decide +kernel
theorem dX11_laysOut_22 : decode cX11_laysOut 22 = .ok (.putfield 238, 3) := by decide +kernel
theorem dX11_laysOut_25 : decode cX11_laysOut 25 = .ok (.aload_n 0, 1) := by decide +kernel
theorem dX11_laysOut_26 : decode cX11_laysOut 26 = .ok (.iconst 0, 1) := by decide +kernel
theorem dX11_laysOut_27 : decode cX11_laysOut 27 = .ok (.putfield 263, 3) := by decide +kernel
theorem dX11_laysOut_30 : decode cX11_laysOut 30 = .ok (.aload_n 0, 1) := by decide +kernel
theorem dX11_laysOut_31 : decode cX11_laysOut 31 = .ok (.iconst 0, 1) := by decide +kernel
theorem dX11_laysOut_32 : decode cX11_laysOut 32 = .ok (.putfield 244, 3) := by decide +kernel
theorem dX11_laysOut_35 : decode cX11_laysOut 35 = .ok (.aload_n 0, 1) := by decide +kernel
theorem dX11_laysOut_36 : decode cX11_laysOut 36 = .ok (.iload_n 3, 1) := by decide +kernel
theorem dX11_laysOut_37 : decode cX11_laysOut 37 = .ok (.putfield 241, 3) := by decide +kernel
theorem dX11_laysOut_40 : decode cX11_laysOut 40 = .ok (.aload_n 0, 1) := by decide +kernel
theorem dX11_laysOut_41 : decode cX11_laysOut 41 = .ok (.getfield 238, 3) := by decide +kernel
theorem dX11_laysOut_44 : decode cX11_laysOut 44 = .ok (.ifCond .ne 154, 3) := by decide +kernel
theorem dX11_laysOut_47 : decode cX11_laysOut 47 = .ok (.aload_n 0, 1) := by decide +kernel
theorem dX11_laysOut_48 : decode cX11_laysOut 48 = .ok (.getfield 244, 3) := by decide +kernel
theorem dX11_laysOut_51 : decode cX11_laysOut 51 = .ok (.ifCond .gt 14, 3) := by decide +kernel
theorem dX11_laysOut_54 : decode cX11_laysOut 54 = .ok (.iload 4, 2) := by decide +kernel
theorem dX11_laysOut_56 : decode cX11_laysOut 56 = .ok (.aload_n 0, 1) := by decide +kernel
theorem dX11_laysOut_57 : decode cX11_laysOut 57 = .ok (.getfield 34, 3) := by decide +kernel
theorem dX11_laysOut_60 : decode cX11_laysOut 60 = .ok (.iload_n 2, 1) := by decide +kernel
theorem dX11_laysOut_61 : decode cX11_laysOut 61 = .ok (.iaload, 1) := by decide +kernel
theorem dX11_laysOut_62 : decode cX11_laysOut 62 = .ok (.if_icmp .ge 136, 3) := by decide +kernel
theorem dX11_laysOut_65 : decode cX11_laysOut 65 = .ok (.aload_n 0, 1) := by decide +kernel
theorem dX11_laysOut_66 : decode cX11_laysOut 66 = .ok (.getfield 244, 3) := by decide +kernel
theorem dX11_laysOut_69 : decode cX11_laysOut 69 = .ok (.ifCond .le 17, 3) := by decide +kernel
theorem dX11_laysOut_72 : decode cX11_laysOut 72 = .ok (.aload_n 0, 1) := by decide +kernel
theorem dX11_laysOut_73 : decode cX11_laysOut 73 = .ok (.getfield 74, 3) := by decide +kernel
theorem dX11_laysOut_76 : decode cX11_laysOut 76 = .ok (.aload_n 0, 1) := by decide +kernel
theorem dX11_laysOut_77 : decode cX11_laysOut 77 = .ok (.getfield 244, 3) := by decide +kernel
theorem dX11_laysOut_80 : decode cX11_laysOut 80 = .ok (.iconst 1, 1) := by decide +kernel
theorem dX11_laysOut_81 : decode cX11_laysOut 81 = .ok (.isub, 1) := by decide +kernel
theorem dX11_laysOut_82 : decode cX11_laysOut 82 = .ok (.iaload, 1) := by decide +kernel
theorem dX11_laysOut_83 : decode cX11_laysOut 83 = .ok (.goto 4, 3) := by decide +kernel
theorem dX11_laysOut_86 : decode cX11_laysOut 86 = .ok (.iconst (-1), 1) := by decide +kernel
theorem dX11_laysOut_87 : decode cX11_laysOut 87 = .ok (.istore 5, 2) := by decide +kernel
theorem dX11_laysOut_89 : decode cX11_laysOut 89 = .ok (.iload 5, 2) := by decide +kernel
theorem dX11_laysOut_91 : decode cX11_laysOut 91 = .ok (.ifCond .lt 94, 3) := by decide +kernel
theorem dX11_laysOut_94 : decode cX11_laysOut 94 = .ok (.iload 4, 2) := by decide +kernel
theorem dX11_laysOut_96 : decode cX11_laysOut 96 = .ok (.aload_n 0, 1) := by decide +kernel
theorem dX11_laysOut_97 : decode cX11_laysOut 97 = .ok (.iload_n 2, 1) := by decide +kernel
theorem dX11_laysOut_98 : decode cX11_laysOut 98 = .ok (.iload 5, 2) := by decide +kernel
theorem dX11_laysOut_100 : decode cX11_laysOut 100 = .ok (.bipush 9, 2) := by decide +kernel
theorem dX11_laysOut_102 : decode cX11_laysOut 102 = .ok (.invokevirtual 139, 3) := by decide +kernel
theorem dX11_laysOut_105 : decode cX11_laysOut 105 = .ok (.if_icmp .ne 80, 3) := by decide +kernel
theorem dX11_laysOut_108 : decode cX11_laysOut 108 = .ok (.aload_n 0, 1) := by decide +kernel
theorem dX11_laysOut_109 : decode cX11_laysOut 109 = .ok (.getfield 80, 3) := by decide +kernel
theorem dX11_laysOut_112 : decode cX11_laysOut 112 = .ok (.aload_n 0, 1) := by decide +kernel
theorem dX11_laysOut_113 : decode cX11_laysOut 113 = .ok (.getfield 244, 3) := by decide +kernel
theorem dX11_laysOut_116 : decode cX11_laysOut 116 = .ok (.iconst 1, 1) := by decide +kernel
theorem dX11_laysOut_117 : decode cX11_laysOut 117 = .ok (.isub, 1) := by decide +kernel
theorem dX11_laysOut_118 : decode cX11_laysOut 118 = .ok (.dup2, 1) := by decide +kernel
theorem dX11_laysOut_119 : decode cX11_laysOut 119 = .ok (.iaload, 1) := by decide +kernel
theorem dX11_laysOut_120 : decode cX11_laysOut 120 = .ok (.iconst 1, 1) := by decide +kernel
theorem dX11_laysOut_121 : decode cX11_laysOut 121 = .ok (.iadd, 1) := by decide +kernel
theorem dX11_laysOut_122 : decode cX11_laysOut 122 = .ok (.iastore, 1) := by decide +kernel
theorem dX11_laysOut_123 : decode cX11_laysOut 123 = .ok (.aload_n 0, 1) := by decide +kernel
theorem dX11_laysOut_124 : decode cX11_laysOut 124 = .ok (.getfield 71, 3) := by decide +kernel
theorem dX11_laysOut_127 : decode cX11_laysOut 127 = .ok (.iload 5, 2) := by decide +kernel
theorem dX11_laysOut_129 : decode cX11_laysOut 129 = .ok (.aload_n 0, 1) := by decide +kernel
theorem dX11_laysOut_130 : decode cX11_laysOut 130 = .ok (.getfield 241, 3) := by decide +kernel
theorem dX11_laysOut_133 : decode cX11_laysOut 133 = .ok (.iastore, 1) := by decide +kernel
theorem dX11_laysOut_134 : decode cX11_laysOut 134 = .ok (.aload_n 0, 1) := by decide +kernel
theorem dX11_laysOut_135 : decode cX11_laysOut 135 = .ok (.getfield 80, 3) := by decide +kernel
theorem dX11_laysOut_138 : decode cX11_laysOut 138 = .ok (.aload_n 0, 1) := by decide +kernel
theorem dX11_laysOut_139 : decode cX11_laysOut 139 = .ok (.getfield 244, 3) := by decide +kernel
theorem dX11_laysOut_142 : decode cX11_laysOut 142 = .ok (.iconst 1, 1) := by decide +kernel
theorem dX11_laysOut_143 : decode cX11_laysOut 143 = .ok (.isub, 1) := by decide +kernel
theorem dX11_laysOut_144 : decode cX11_laysOut 144 = .ok (.iaload, 1) := by decide +kernel
theorem dX11_laysOut_145 : decode cX11_laysOut 145 = .ok (.aload_n 0, 1) := by decide +kernel
theorem dX11_laysOut_146 : decode cX11_laysOut 146 = .ok (.getfield 77, 3) := by decide +kernel
theorem dX11_laysOut_149 : decode cX11_laysOut 149 = .ok (.aload_n 0, 1) := by decide +kernel
theorem dX11_laysOut_150 : decode cX11_laysOut 150 = .ok (.getfield 244, 3) := by decide +kernel
theorem dX11_laysOut_153 : decode cX11_laysOut 153 = .ok (.iconst 1, 1) := by decide +kernel
theorem dX11_laysOut_154 : decode cX11_laysOut 154 = .ok (.isub, 1) := by decide +kernel
theorem dX11_laysOut_155 : decode cX11_laysOut 155 = .ok (.iaload, 1) := by decide +kernel
theorem dX11_laysOut_156 : decode cX11_laysOut 156 = .ok (.if_icmp .ge 16, 3) := by decide +kernel
theorem dX11_laysOut_159 : decode cX11_laysOut 159 = .ok (.aload_n 0, 1) := by decide +kernel
theorem dX11_laysOut_160 : decode cX11_laysOut 160 = .ok (.invokevirtual 260, 3) := by decide +kernel
theorem dX11_laysOut_163 : decode cX11_laysOut 163 = .ok (.iload 5, 2) := by decide +kernel
theorem dX11_laysOut_165 : decode cX11_laysOut 165 = .ok (.iconst 1, 1) := by decide +kernel
theorem dX11_laysOut_166 : decode cX11_laysOut 166 = .ok (.iadd, 1) := by decide +kernel
theorem dX11_laysOut_167 : decode cX11_laysOut 167 = .ok (.istore 4, 2) := by decide +kernel
theorem dX11_laysOut_169 : decode cX11_laysOut 169 = .ok (.goto 26, 3) := by decide +kernel
theorem dX11_laysOut_172 : decode cX11_laysOut 172 = .ok (.aload_n 0, 1) := by decide +kernel
theorem dX11_laysOut_173 : decode cX11_laysOut 173 = .ok (.dup, 1) := by decide +kernel
theorem dX11_laysOut_174 : decode cX11_laysOut 174 = .ok (.getfield 244, 3) := by decide +kernel
theorem dX11_laysOut_177 : decode cX11_laysOut 177 = .ok (.iconst 1, 1) := by decide +kernel
theorem dX11_laysOut_178 : decode cX11_laysOut 178 = .ok (.isub, 1) := by decide +kernel
theorem dX11_laysOut_179 : decode cX11_laysOut 179 = .ok (.putfield 244, 3) := by decide +kernel
theorem dX11_laysOut_182 : decode cX11_laysOut 182 = .ok (.goto 13, 3) := by decide +kernel
theorem dX11_laysOut_185 : decode cX11_laysOut 185 = .ok (.aload_n 0, 1) := by decide +kernel
theorem dX11_laysOut_186 : decode cX11_laysOut 186 = .ok (.iload_n 2, 1) := by decide +kernel
theorem dX11_laysOut_187 : decode cX11_laysOut 187 = .ok (.iload 4, 2) := by decide +kernel
theorem dX11_laysOut_189 : decode cX11_laysOut 189 = .ok (.iload_n 3, 1) := by decide +kernel
theorem dX11_laysOut_190 : decode cX11_laysOut 190 = .ok (.invokevirtual 278, 3) := by decide +kernel
theorem dX11_laysOut_193 : decode cX11_laysOut 193 = .ok (.istore 4, 2) := by decide +kernel
theorem dX11_laysOut_195 : decode cX11_laysOut 195 = .ok (.goto (-155), 3) := by decide +kernel
theorem dX11_laysOut_198 : decode cX11_laysOut 198 = .ok (.return_, 1) := by decide +kernel
theorem vc_X11_laysOut_0 {G : zG} {d : Nat} {Q : Option zV → zHp → Prop} (p1 : Int) (h : zHp) (hS : zSh h) (hd : 4 ≤ d) (I_40 : Int → Int → Int → Int → zHp → Prop) (hI_40 : ∀ (y1 : Int) (y2 : Int) (y3 : Int) (y4 : Int) (h' : zHp), I_40 y1 y2 y3 y4 h' → wpN G d M_X11_laysOut 40 [(0, vR 343), (1, vI y1), (2, vI y2), (3, vI y3), (4, vI y4)] [] h' Q) 
    (hv : (wpN G (d - 1) M_X11_templateOf 0 (zar 0 [vR 343, vI p1]) [] h (qI (fun z1 h2 => zSh h2 ∧ (wpN G (d - 1) M_X11_offsetOf 0 (zar 0 [vR 343, vI p1]) [] h2 (qI (fun z5 h6 => zSh h6 ∧ (∀ h9 : zHp, h9 = sI h6 343 31 0 → (∀ h11 : zHp, h11 = sI h9 343 32 0 → (∀ h13 : zHp, h13 = sI h11 343 34 0 → (∀ h15 : zHp, h15 = sI h13 343 41 0 → (∀ h17 : zHp, h17 = sI h15 343 33 z5 → (zSh h17 → I_40 p1 z1 z5 0 h17))))))))))))) : wpN G d M_X11_laysOut 0 [(0, vR 343), (1, vI p1)] [] h Q := by
  refine wq_aload_n 0 rfl rfl dX11_laysOut_0 ?_
  refine wq_iload_n 1 rfl rfl dX11_laysOut_1 ?_
  refine wN_V (As := [vI p1]) vm_X11_templateOf lk_X11_207 tT_343 rfl rfl (Nat.le_of_ble_eq_true rfl) (Nat.le_of_ble_eq_true rfl) (d' := d - 1) (by omega) dX11_laysOut_2 hv (fun v9 h2 q3 => ?_)
  obtain ⟨z1, rfl, hS4, q3⟩ := q3
  refine wq_st (st' := [vI z1]) rfl ?_
  refine wq_istore_n (ls' := [(0, vR 343), (1, vI p1), (2, vI z1)]) rfl (by decide) rfl dX11_laysOut_5 ?_
  refine wq_aload_n 0 rfl rfl dX11_laysOut_6 ?_
  refine wq_iload_n 1 rfl rfl dX11_laysOut_7 ?_
  refine wN_V (As := [vI p1]) vm_X11_offsetOf lk_X11_275 tT_343 rfl rfl (Nat.le_of_ble_eq_true rfl) (Nat.le_of_ble_eq_true rfl) (d' := d - 1) (by omega) dX11_laysOut_8 q3 (fun v9 h6 q7 => ?_)
  obtain ⟨z5, rfl, hS8, q7⟩ := q7
  refine wq_st (st' := [vI z5]) rfl ?_
  refine wq_istore_n (ls' := [(0, vR 343), (1, vI p1), (2, vI z1), (3, vI z5)]) rfl (by decide) rfl dX11_laysOut_11 ?_
  refine wq_iconst (z := 0) (zlit rfl) dX11_laysOut_12 ?_
  refine wq_istore (ls' := [(0, vR 343), (1, vI p1), (2, vI z1), (3, vI z5), (4, vI 0)]) (by decide) rfl dX11_laysOut_13 ?_
  refine wq_aload_n 0 rfl rfl dX11_laysOut_15 ?_
  refine wq_iconst (z := 0) (zlit rfl) dX11_laysOut_16 ?_
  refine wq_putI fk_X11_235 tT_343 rfl rfl dX11_laysOut_17 ?_
  refine wq_toph (fun h9 e10 => ?_)
  have sh9 : zSh h9 := zSh_of e10 hS8
  refine wq_aload_n 0 rfl rfl dX11_laysOut_20 ?_
  refine wq_iconst (z := 0) (zlit rfl) dX11_laysOut_21 ?_
  refine wq_putI fk_X11_238 tT_343 rfl rfl dX11_laysOut_22 ?_
  refine wq_toph (fun h11 e12 => ?_)
  have sh11 : zSh h11 := zSh_of e12 sh9
  refine wq_aload_n 0 rfl rfl dX11_laysOut_25 ?_
  refine wq_iconst (z := 0) (zlit rfl) dX11_laysOut_26 ?_
  refine wq_putI fk_X11_263 tT_343 rfl rfl dX11_laysOut_27 ?_
  refine wq_toph (fun h13 e14 => ?_)
  have sh13 : zSh h13 := zSh_of e14 sh11
  refine wq_aload_n 0 rfl rfl dX11_laysOut_30 ?_
  refine wq_iconst (z := 0) (zlit rfl) dX11_laysOut_31 ?_
  refine wq_putI fk_X11_244 tT_343 rfl rfl dX11_laysOut_32 ?_
  refine wq_toph (fun h15 e16 => ?_)
  have sh15 : zSh h15 := zSh_of e16 sh13
  refine wq_aload_n 0 rfl rfl dX11_laysOut_35 ?_
  refine wq_iload_n 3 rfl rfl dX11_laysOut_36 ?_
  refine wq_putI fk_X11_241 tT_343 rfl rfl dX11_laysOut_37 ?_
  refine wq_toph (fun h17 e18 => ?_)
  have sh17 : zSh h17 := zSh_of e18 sh15
  exact wq_pick [0, 1, 2, 3, 4] rfl (hI_40 p1 z1 z5 0 h17 ((((((q7 h9 e10) h11 e12) h13 e14) h15 e16) h17 e18) sh17))
theorem vc_X11_laysOut_40 {G : zG} {d : Nat} {Q : Option zV → zHp → Prop} (y1 : Int) (y2 : Int) (y3 : Int) (y4 : Int) (h : zHp) (hS : zSh h) (hd : 4 ≤ d) (I_40 : Int → Int → Int → Int → zHp → Prop) (hI_40 : ∀ (y1 : Int) (y2 : Int) (y3 : Int) (y4 : Int) (h' : zHp), I_40 y1 y2 y3 y4 h' → wpN G d M_X11_laysOut 40 [(0, vR 343), (1, vI y1), (2, vI y2), (3, vI y3), (4, vI y4)] [] h' Q) 
    (hv : (((gI h 343 32) ≠ 0 → Q none h) ∧ ((gI h 343 32) = 0 → ((0 < (gI h 343 41) → (((gI h 343 41) ≤ 0 → (wpN G (d - 1) M_X11_passes 0 (zar 0 [vR 343, vI y2, vI y4, vI y3]) [] h (qI (fun z5 h6 => zSh h6 ∧ (zSh h6 → I_40 y1 y2 y3 z5 h6))))) ∧ (0 < (gI h 343 41) → ((-2147483648 ≤ (gI h 343 41) - 1 ∧ (gI h 343 41) - 1 ≤ 2147483647) ∧ (((0 : Int) ≤ ((gI h 343 41) - 1) ∧ ((gI h 343 41) - 1) < ((4 : Nat) : Int)) ∧ (∀ x9 : Int, x9 = (gI h 365 ((gI h 343 41) - 1).toNat) → ((x9 < 0 → (wpN G (d - 1) M_X11_passes 0 (zar 0 [vR 343, vI y2, vI y4, vI y3]) [] h (qI (fun z12 h13 => zSh h13 ∧ (zSh h13 → I_40 y1 y2 y3 z12 h13))))) ∧ (0 ≤ x9 → (wpN G (d - 1) M_X11_of 0 (zar 0 [vR 343, vI y2, vI x9, vI 9]) [] h (qI (fun z16 h17 => zSh h17 ∧ ((y4 ≠ z16 → (wpN G (d - 1) M_X11_passes 0 (zar 0 [vR 343, vI y2, vI y4, vI y3]) [] h17 (qI (fun z21 h22 => zSh h22 ∧ (zSh h22 → I_40 y1 y2 y3 z21 h22))))) ∧ (y4 = z16 → ((-2147483648 ≤ (gI h17 343 41) - 1 ∧ (gI h17 343 41) - 1 ≤ 2147483647) ∧ (((0 : Int) ≤ ((gI h17 343 41) - 1) ∧ ((gI h17 343 41) - 1) < ((4 : Nat) : Int)) ∧ ((-2147483648 ≤ (gI h17 367 ((gI h17 343 41) - 1).toNat) + 1 ∧ (gI h17 367 ((gI h17 343 41) - 1).toNat) + 1 ≤ 2147483647) ∧ (((0 : Int) ≤ ((gI h17 343 41) - 1) ∧ ((gI h17 343 41) - 1) < ((4 : Nat) : Int)) ∧ (∀ h25 : zHp, h25 = sI h17 367 ((gI h17 343 41) - 1).toNat ((gI h17 367 ((gI h17 343 41) - 1).toNat) + 1) → (((0 : Int) ≤ x9 ∧ x9 < ((24 : Nat) : Int)) ∧ (∀ h27 : zHp, h27 = sI h25 364 x9.toNat (gI h25 343 33) → ((-2147483648 ≤ (gI h27 343 41) - 1 ∧ (gI h27 343 41) - 1 ≤ 2147483647) ∧ (((0 : Int) ≤ ((gI h27 343 41) - 1) ∧ ((gI h27 343 41) - 1) < ((4 : Nat) : Int)) ∧ ((-2147483648 ≤ (gI h27 343 41) - 1 ∧ (gI h27 343 41) - 1 ≤ 2147483647) ∧ (((0 : Int) ≤ ((gI h27 343 41) - 1) ∧ ((gI h27 343 41) - 1) < ((4 : Nat) : Int)) ∧ (((gI h27 366 ((gI h27 343 41) - 1).toNat) ≤ (gI h27 367 ((gI h27 343 41) - 1).toNat) → ((-2147483648 ≤ (gI h27 343 41) - 1 ∧ (gI h27 343 41) - 1 ≤ 2147483647) ∧ (∀ h30 : zHp, h30 = sI h27 343 41 ((gI h27 343 41) - 1) → (zSh h30 → I_40 y1 y2 y3 y4 h30)))) ∧ ((gI h27 367 ((gI h27 343 41) - 1).toNat) < (gI h27 366 ((gI h27 343 41) - 1).toNat) → (wpN G (d - 1) M_X11_goesIn 0 (zar 0 [vR 343]) [] h27 (qV (fun h33 => zSh h33 ∧ ((-2147483648 ≤ x9 + 1 ∧ x9 + 1 ≤ 2147483647) ∧ (∀ x36 : Int, x36 = (x9 + 1) → (zSh h33 → I_40 y1 y2 y3 x36 h33)))))))))))))))))))))))))))))))) ∧ ((gI h 343 41) ≤ 0 → (((0 : Int) ≤ y2 ∧ y2 < ((5 : Nat) : Int)) ∧ (((gI h 352 y2.toNat) ≤ y4 → Q none h) ∧ (y4 < (gI h 352 y2.toNat) → (((gI h 343 41) ≤ 0 → (wpN G (d - 1) M_X11_passes 0 (zar 0 [vR 343, vI y2, vI y4, vI y3]) [] h (qI (fun z41 h42 => zSh h42 ∧ (zSh h42 → I_40 y1 y2 y3 z41 h42))))) ∧ (0 < (gI h 343 41) → ((-2147483648 ≤ (gI h 343 41) - 1 ∧ (gI h 343 41) - 1 ≤ 2147483647) ∧ (((0 : Int) ≤ ((gI h 343 41) - 1) ∧ ((gI h 343 41) - 1) < ((4 : Nat) : Int)) ∧ (∀ x45 : Int, x45 = (gI h 365 ((gI h 343 41) - 1).toNat) → ((x45 < 0 → (wpN G (d - 1) M_X11_passes 0 (zar 0 [vR 343, vI y2, vI y4, vI y3]) [] h (qI (fun z48 h49 => zSh h49 ∧ (zSh h49 → I_40 y1 y2 y3 z48 h49))))) ∧ (0 ≤ x45 → (wpN G (d - 1) M_X11_of 0 (zar 0 [vR 343, vI y2, vI x45, vI 9]) [] h (qI (fun z52 h53 => zSh h53 ∧ ((y4 ≠ z52 → (wpN G (d - 1) M_X11_passes 0 (zar 0 [vR 343, vI y2, vI y4, vI y3]) [] h53 (qI (fun z57 h58 => zSh h58 ∧ (zSh h58 → I_40 y1 y2 y3 z57 h58))))) ∧ (y4 = z52 → ((-2147483648 ≤ (gI h53 343 41) - 1 ∧ (gI h53 343 41) - 1 ≤ 2147483647) ∧ (((0 : Int) ≤ ((gI h53 343 41) - 1) ∧ ((gI h53 343 41) - 1) < ((4 : Nat) : Int)) ∧ ((-2147483648 ≤ (gI h53 367 ((gI h53 343 41) - 1).toNat) + 1 ∧ (gI h53 367 ((gI h53 343 41) - 1).toNat) + 1 ≤ 2147483647) ∧ (((0 : Int) ≤ ((gI h53 343 41) - 1) ∧ ((gI h53 343 41) - 1) < ((4 : Nat) : Int)) ∧ (∀ h61 : zHp, h61 = sI h53 367 ((gI h53 343 41) - 1).toNat ((gI h53 367 ((gI h53 343 41) - 1).toNat) + 1) → (((0 : Int) ≤ x45 ∧ x45 < ((24 : Nat) : Int)) ∧ (∀ h63 : zHp, h63 = sI h61 364 x45.toNat (gI h61 343 33) → ((-2147483648 ≤ (gI h63 343 41) - 1 ∧ (gI h63 343 41) - 1 ≤ 2147483647) ∧ (((0 : Int) ≤ ((gI h63 343 41) - 1) ∧ ((gI h63 343 41) - 1) < ((4 : Nat) : Int)) ∧ ((-2147483648 ≤ (gI h63 343 41) - 1 ∧ (gI h63 343 41) - 1 ≤ 2147483647) ∧ (((0 : Int) ≤ ((gI h63 343 41) - 1) ∧ ((gI h63 343 41) - 1) < ((4 : Nat) : Int)) ∧ (((gI h63 366 ((gI h63 343 41) - 1).toNat) ≤ (gI h63 367 ((gI h63 343 41) - 1).toNat) → ((-2147483648 ≤ (gI h63 343 41) - 1 ∧ (gI h63 343 41) - 1 ≤ 2147483647) ∧ (∀ h66 : zHp, h66 = sI h63 343 41 ((gI h63 343 41) - 1) → (zSh h66 → I_40 y1 y2 y3 y4 h66)))) ∧ ((gI h63 367 ((gI h63 343 41) - 1).toNat) < (gI h63 366 ((gI h63 343 41) - 1).toNat) → (wpN G (d - 1) M_X11_goesIn 0 (zar 0 [vR 343]) [] h63 (qV (fun h69 => zSh h69 ∧ ((-2147483648 ≤ x45 + 1 ∧ x45 + 1 ≤ 2147483647) ∧ (∀ x72 : Int, x72 = (x45 + 1) → (zSh h69 → I_40 y1 y2 y3 x72 h69))))))))))))))))))))))))))))))))))))))) : wpN G d M_X11_laysOut 40 [(0, vR 343), (1, vI y1), (2, vI y2), (3, vI y3), (4, vI y4)] [] h Q := by
  refine wq_aload_n 0 rfl rfl dX11_laysOut_40 ?_
  refine wq_getI fk_X11_238 tT_343 (fun _ _ _ => rfl) dX11_laysOut_41 ?_
  refine wq_if_ne 198 rfl dX11_laysOut_44 (fun c1 => ?_) (fun c1 => ?_)
  · exact wp_vret rfl dX11_laysOut_198 (hv.1 c1)
  · refine wq_aload_n 0 rfl rfl dX11_laysOut_47 ?_
    refine wq_getI fk_X11_244 tT_343 (fun _ _ _ => rfl) dX11_laysOut_48 ?_
    refine wq_if_gt 65 rfl dX11_laysOut_51 (fun c2 => ?_) (fun c2 => ?_)
    · refine wq_aload_n 0 rfl rfl dX11_laysOut_65 ?_
      refine wq_getI fk_X11_244 tT_343 (fun _ _ _ => rfl) dX11_laysOut_66 ?_
      refine wq_if_le 86 rfl dX11_laysOut_69 (fun c3 => ?_) (fun c3 => ?_)
      · refine wq_iconst (z := -1) (zlit rfl) dX11_laysOut_86 ?_
        refine wq_istore (ls' := [(0, vR 343), (1, vI y1), (2, vI y2), (3, vI y3), (4, vI y4), (5, vI (-1))]) (by decide) rfl dX11_laysOut_87 ?_
        refine wq_iload 5 rfl dX11_laysOut_89 ?_
        refine wq_if_lt 185 rfl dX11_laysOut_91 (fun _ => ?_) (fun c4 => absurd c4 (by decide))
        refine wq_aload_n 0 rfl rfl dX11_laysOut_185 ?_
        refine wq_iload_n 2 rfl rfl dX11_laysOut_186 ?_
        refine wq_iload 4 rfl dX11_laysOut_187 ?_
        refine wq_iload_n 3 rfl rfl dX11_laysOut_189 ?_
        refine wN_V (As := [vI y2, vI y4, vI y3]) vm_X11_passes lk_X11_278 tT_343 rfl rfl (Nat.le_of_ble_eq_true rfl) (Nat.le_of_ble_eq_true rfl) (d' := d - 1) (by omega) dX11_laysOut_190 (((hv.2 c1).1 c2).1 c3) (fun v9 h6 q7 => ?_)
        obtain ⟨z5, rfl, hS8, q7⟩ := q7
        refine wq_st (st' := [vI z5]) rfl ?_
        refine wq_istore (ls' := [(0, vR 343), (1, vI y1), (2, vI y2), (3, vI y3), (4, vI z5), (5, vI (-1))]) (by decide) rfl dX11_laysOut_193 ?_
        refine wq_goto 40 rfl dX11_laysOut_195 ?_
        exact wq_pick [0, 1, 2, 3, 4] rfl (hI_40 y1 y2 y3 z5 h6 (q7 hS8))
      · refine wq_aload_n 0 rfl rfl dX11_laysOut_72 ?_
        refine wq_getR fk_X11_74 tT_343 (fun _ _ _ => rfl) (sh_11_38 hS) (by decide) dX11_laysOut_73 ?_
        refine wq_aload_n 0 rfl rfl dX11_laysOut_76 ?_
        refine wq_getI fk_X11_244 tT_343 (fun _ _ _ => rfl) dX11_laysOut_77 ?_
        refine wq_iconst (z := 1) (zlit rfl) dX11_laysOut_80 ?_
        refine wq_isub (((hv.2 c1).1 c2).2 c3).1 dX11_laysOut_81 ?_
        refine wq_iald tT_365 (((hv.2 c1).1 c2).2 c3).2.1.1 (((hv.2 c1).1 c2).2 c3).2.1.2 dX11_laysOut_82 ?_
        refine wq_goto 87 rfl dX11_laysOut_83 ?_
        refine wq_topI (fun x9 e10 => ?_)
        refine wq_istore (ls' := [(0, vR 343), (1, vI y1), (2, vI y2), (3, vI y3), (4, vI y4), (5, vI x9)]) (by decide) rfl dX11_laysOut_87 ?_
        refine wq_iload 5 rfl dX11_laysOut_89 ?_
        refine wq_if_lt 185 rfl dX11_laysOut_91 (fun c11 => ?_) (fun c11 => ?_)
        · refine wq_aload_n 0 rfl rfl dX11_laysOut_185 ?_
          refine wq_iload_n 2 rfl rfl dX11_laysOut_186 ?_
          refine wq_iload 4 rfl dX11_laysOut_187 ?_
          refine wq_iload_n 3 rfl rfl dX11_laysOut_189 ?_
          refine wN_V (As := [vI y2, vI y4, vI y3]) vm_X11_passes lk_X11_278 tT_343 rfl rfl (Nat.le_of_ble_eq_true rfl) (Nat.le_of_ble_eq_true rfl) (d' := d - 1) (by omega) dX11_laysOut_190 (((((hv.2 c1).1 c2).2 c3).2.2 x9 e10).1 c11) (fun v9 h13 q14 => ?_)
          obtain ⟨z12, rfl, hS15, q14⟩ := q14
          refine wq_st (st' := [vI z12]) rfl ?_
          refine wq_istore (ls' := [(0, vR 343), (1, vI y1), (2, vI y2), (3, vI y3), (4, vI z12), (5, vI x9)]) (by decide) rfl dX11_laysOut_193 ?_
          refine wq_goto 40 rfl dX11_laysOut_195 ?_
          exact wq_pick [0, 1, 2, 3, 4] rfl (hI_40 y1 y2 y3 z12 h13 (q14 hS15))
        · refine wq_iload 4 rfl dX11_laysOut_94 ?_
          refine wq_aload_n 0 rfl rfl dX11_laysOut_96 ?_
          refine wq_iload_n 2 rfl rfl dX11_laysOut_97 ?_
          refine wq_iload 5 rfl dX11_laysOut_98 ?_
          refine wq_bipush (z := 9) (zlit rfl) rfl dX11_laysOut_100 ?_
          refine wN_V (As := [vI y2, vI x9, vI 9]) vm_X11_of lk_X11_139 tT_343 rfl rfl (Nat.le_of_ble_eq_true rfl) (Nat.le_of_ble_eq_true rfl) (d' := d - 1) (by omega) dX11_laysOut_102 (((((hv.2 c1).1 c2).2 c3).2.2 x9 e10).2 c11) (fun v9 h17 q18 => ?_)
          obtain ⟨z16, rfl, hS19, q18⟩ := q18
          refine wq_st (st' := [vI z16, vI y4]) rfl ?_
          refine wq_icmp_ne 185 rfl dX11_laysOut_105 (fun c20 => ?_) (fun c20 => ?_)
          · refine wq_aload_n 0 rfl rfl dX11_laysOut_185 ?_
            refine wq_iload_n 2 rfl rfl dX11_laysOut_186 ?_
            refine wq_iload 4 rfl dX11_laysOut_187 ?_
            refine wq_iload_n 3 rfl rfl dX11_laysOut_189 ?_
            refine wN_V (As := [vI y2, vI y4, vI y3]) vm_X11_passes lk_X11_278 tT_343 rfl rfl (Nat.le_of_ble_eq_true rfl) (Nat.le_of_ble_eq_true rfl) (d' := d - 1) (by omega) dX11_laysOut_190 (q18.1 c20) (fun v9 h22 q23 => ?_)
            obtain ⟨z21, rfl, hS24, q23⟩ := q23
            refine wq_st (st' := [vI z21]) rfl ?_
            refine wq_istore (ls' := [(0, vR 343), (1, vI y1), (2, vI y2), (3, vI y3), (4, vI z21), (5, vI x9)]) (by decide) rfl dX11_laysOut_193 ?_
            refine wq_goto 40 rfl dX11_laysOut_195 ?_
            exact wq_pick [0, 1, 2, 3, 4] rfl (hI_40 y1 y2 y3 z21 h22 (q23 hS24))
          · refine wq_aload_n 0 rfl rfl dX11_laysOut_108 ?_
            refine wq_getR fk_X11_80 tT_343 (fun _ _ _ => rfl) (sh_11_40 hS19) (by decide) dX11_laysOut_109 ?_
            refine wq_aload_n 0 rfl rfl dX11_laysOut_112 ?_
            refine wq_getI fk_X11_244 tT_343 (fun _ _ _ => rfl) dX11_laysOut_113 ?_
            refine wq_iconst (z := 1) (zlit rfl) dX11_laysOut_116 ?_
            refine wq_isub (q18.2 c20).1 dX11_laysOut_117 ?_
            refine wq_dup2 rfl rfl dX11_laysOut_118 ?_
            refine wq_iald tT_367 (q18.2 c20).2.1.1 (q18.2 c20).2.1.2 dX11_laysOut_119 ?_
            refine wq_iconst (z := 1) (zlit rfl) dX11_laysOut_120 ?_
            refine wq_iadd (q18.2 c20).2.2.1 dX11_laysOut_121 ?_
            refine wq_iast tT_367 (q18.2 c20).2.2.2.1.1 (q18.2 c20).2.2.2.1.2 dX11_laysOut_122 ?_
            refine wq_toph (fun h25 e26 => ?_)
            have sh25 : zSh h25 := zSh_of e26 hS19
            refine wq_aload_n 0 rfl rfl dX11_laysOut_123 ?_
            refine wq_getR fk_X11_71 tT_343 (fun _ _ _ => rfl) (sh_11_37 sh25) (by decide) dX11_laysOut_124 ?_
            refine wq_iload 5 rfl dX11_laysOut_127 ?_
            refine wq_aload_n 0 rfl rfl dX11_laysOut_129 ?_
            refine wq_getI fk_X11_241 tT_343 (fun _ _ _ => rfl) dX11_laysOut_130 ?_
            refine wq_iast tT_364 ((q18.2 c20).2.2.2.2 h25 e26).1.1 ((q18.2 c20).2.2.2.2 h25 e26).1.2 dX11_laysOut_133 ?_
            refine wq_toph (fun h27 e28 => ?_)
            have sh27 : zSh h27 := zSh_of e28 sh25
            refine wq_aload_n 0 rfl rfl dX11_laysOut_134 ?_
            refine wq_getR fk_X11_80 tT_343 (fun _ _ _ => rfl) (sh_11_40 sh27) (by decide) dX11_laysOut_135 ?_
            refine wq_aload_n 0 rfl rfl dX11_laysOut_138 ?_
            refine wq_getI fk_X11_244 tT_343 (fun _ _ _ => rfl) dX11_laysOut_139 ?_
            refine wq_iconst (z := 1) (zlit rfl) dX11_laysOut_142 ?_
            refine wq_isub (((q18.2 c20).2.2.2.2 h25 e26).2 h27 e28).1 dX11_laysOut_143 ?_
            refine wq_iald tT_367 (((q18.2 c20).2.2.2.2 h25 e26).2 h27 e28).2.1.1 (((q18.2 c20).2.2.2.2 h25 e26).2 h27 e28).2.1.2 dX11_laysOut_144 ?_
            refine wq_aload_n 0 rfl rfl dX11_laysOut_145 ?_
            refine wq_getR fk_X11_77 tT_343 (fun _ _ _ => rfl) (sh_11_39 sh27) (by decide) dX11_laysOut_146 ?_
            refine wq_aload_n 0 rfl rfl dX11_laysOut_149 ?_
            refine wq_getI fk_X11_244 tT_343 (fun _ _ _ => rfl) dX11_laysOut_150 ?_
            refine wq_iconst (z := 1) (zlit rfl) dX11_laysOut_153 ?_
            refine wq_isub (((q18.2 c20).2.2.2.2 h25 e26).2 h27 e28).2.2.1 dX11_laysOut_154 ?_
            refine wq_iald tT_366 (((q18.2 c20).2.2.2.2 h25 e26).2 h27 e28).2.2.2.1.1 (((q18.2 c20).2.2.2.2 h25 e26).2 h27 e28).2.2.2.1.2 dX11_laysOut_155 ?_
            refine wq_icmp_ge 172 rfl dX11_laysOut_156 (fun c29 => ?_) (fun c29 => ?_)
            · refine wq_aload_n 0 rfl rfl dX11_laysOut_172 ?_
              refine wq_dup rfl dX11_laysOut_173 ?_
              refine wq_getI fk_X11_244 tT_343 (fun _ _ _ => rfl) dX11_laysOut_174 ?_
              refine wq_iconst (z := 1) (zlit rfl) dX11_laysOut_177 ?_
              refine wq_isub ((((q18.2 c20).2.2.2.2 h25 e26).2 h27 e28).2.2.2.2.1 c29).1 dX11_laysOut_178 ?_
              refine wq_putI fk_X11_244 tT_343 rfl rfl dX11_laysOut_179 ?_
              refine wq_toph (fun h30 e31 => ?_)
              have sh30 : zSh h30 := zSh_of e31 sh27
              refine wq_goto 195 rfl dX11_laysOut_182 ?_
              refine wq_goto 40 rfl dX11_laysOut_195 ?_
              exact wq_pick [0, 1, 2, 3, 4] rfl (hI_40 y1 y2 y3 y4 h30 ((((((q18.2 c20).2.2.2.2 h25 e26).2 h27 e28).2.2.2.2.1 c29).2 h30 e31) sh30))
            · refine wq_aload_n 0 rfl rfl dX11_laysOut_159 ?_
              refine wN_V (As := []) vm_X11_goesIn lk_X11_260 tT_343 rfl rfl (Nat.le_of_ble_eq_true rfl) (Nat.le_of_ble_eq_true rfl) (d' := d - 1) (by omega) dX11_laysOut_160 ((((q18.2 c20).2.2.2.2 h25 e26).2 h27 e28).2.2.2.2.2 c29) (fun v9 h33 q34 => ?_)
              obtain ⟨rfl, hS35, q34⟩ := q34
              refine wq_st (st' := []) rfl ?_
              refine wq_iload 5 rfl dX11_laysOut_163 ?_
              refine wq_iconst (z := 1) (zlit rfl) dX11_laysOut_165 ?_
              refine wq_iadd q34.1 dX11_laysOut_166 ?_
              refine wq_topI (fun x36 e37 => ?_)
              refine wq_istore (ls' := [(0, vR 343), (1, vI y1), (2, vI y2), (3, vI y3), (4, vI x36), (5, vI x9)]) (by decide) rfl dX11_laysOut_167 ?_
              refine wq_goto 195 rfl dX11_laysOut_169 ?_
              refine wq_goto 40 rfl dX11_laysOut_195 ?_
              exact wq_pick [0, 1, 2, 3, 4] rfl (hI_40 y1 y2 y3 x36 h33 ((q34.2 x36 e37) hS35))
    · refine wq_iload 4 rfl dX11_laysOut_54 ?_
      refine wq_aload_n 0 rfl rfl dX11_laysOut_56 ?_
      refine wq_getR fk_X11_34 tT_343 (fun _ _ _ => rfl) (sh_11_14 hS) (by decide) dX11_laysOut_57 ?_
      refine wq_iload_n 2 rfl rfl dX11_laysOut_60 ?_
      refine wq_iald tT_352 ((hv.2 c1).2 c2).1.1 ((hv.2 c1).2 c2).1.2 dX11_laysOut_61 ?_
      refine wq_icmp_ge 198 rfl dX11_laysOut_62 (fun c38 => ?_) (fun c38 => ?_)
      · exact wp_vret rfl dX11_laysOut_198 (((hv.2 c1).2 c2).2.1 c38)
      · refine wq_aload_n 0 rfl rfl dX11_laysOut_65 ?_
        refine wq_getI fk_X11_244 tT_343 (fun _ _ _ => rfl) dX11_laysOut_66 ?_
        refine wq_if_le 86 rfl dX11_laysOut_69 (fun c39 => ?_) (fun c39 => ?_)
        · refine wq_iconst (z := -1) (zlit rfl) dX11_laysOut_86 ?_
          refine wq_istore (ls' := [(0, vR 343), (1, vI y1), (2, vI y2), (3, vI y3), (4, vI y4), (5, vI (-1))]) (by decide) rfl dX11_laysOut_87 ?_
          refine wq_iload 5 rfl dX11_laysOut_89 ?_
          refine wq_if_lt 185 rfl dX11_laysOut_91 (fun _ => ?_) (fun c40 => absurd c40 (by decide))
          refine wq_aload_n 0 rfl rfl dX11_laysOut_185 ?_
          refine wq_iload_n 2 rfl rfl dX11_laysOut_186 ?_
          refine wq_iload 4 rfl dX11_laysOut_187 ?_
          refine wq_iload_n 3 rfl rfl dX11_laysOut_189 ?_
          refine wN_V (As := [vI y2, vI y4, vI y3]) vm_X11_passes lk_X11_278 tT_343 rfl rfl (Nat.le_of_ble_eq_true rfl) (Nat.le_of_ble_eq_true rfl) (d' := d - 1) (by omega) dX11_laysOut_190 ((((hv.2 c1).2 c2).2.2 c38).1 c39) (fun v9 h42 q43 => ?_)
          obtain ⟨z41, rfl, hS44, q43⟩ := q43
          refine wq_st (st' := [vI z41]) rfl ?_
          refine wq_istore (ls' := [(0, vR 343), (1, vI y1), (2, vI y2), (3, vI y3), (4, vI z41), (5, vI (-1))]) (by decide) rfl dX11_laysOut_193 ?_
          refine wq_goto 40 rfl dX11_laysOut_195 ?_
          exact wq_pick [0, 1, 2, 3, 4] rfl (hI_40 y1 y2 y3 z41 h42 (q43 hS44))
        · refine wq_aload_n 0 rfl rfl dX11_laysOut_72 ?_
          refine wq_getR fk_X11_74 tT_343 (fun _ _ _ => rfl) (sh_11_38 hS) (by decide) dX11_laysOut_73 ?_
          refine wq_aload_n 0 rfl rfl dX11_laysOut_76 ?_
          refine wq_getI fk_X11_244 tT_343 (fun _ _ _ => rfl) dX11_laysOut_77 ?_
          refine wq_iconst (z := 1) (zlit rfl) dX11_laysOut_80 ?_
          refine wq_isub ((((hv.2 c1).2 c2).2.2 c38).2 c39).1 dX11_laysOut_81 ?_
          refine wq_iald tT_365 ((((hv.2 c1).2 c2).2.2 c38).2 c39).2.1.1 ((((hv.2 c1).2 c2).2.2 c38).2 c39).2.1.2 dX11_laysOut_82 ?_
          refine wq_goto 87 rfl dX11_laysOut_83 ?_
          refine wq_topI (fun x45 e46 => ?_)
          refine wq_istore (ls' := [(0, vR 343), (1, vI y1), (2, vI y2), (3, vI y3), (4, vI y4), (5, vI x45)]) (by decide) rfl dX11_laysOut_87 ?_
          refine wq_iload 5 rfl dX11_laysOut_89 ?_
          refine wq_if_lt 185 rfl dX11_laysOut_91 (fun c47 => ?_) (fun c47 => ?_)
          · refine wq_aload_n 0 rfl rfl dX11_laysOut_185 ?_
            refine wq_iload_n 2 rfl rfl dX11_laysOut_186 ?_
            refine wq_iload 4 rfl dX11_laysOut_187 ?_
            refine wq_iload_n 3 rfl rfl dX11_laysOut_189 ?_
            refine wN_V (As := [vI y2, vI y4, vI y3]) vm_X11_passes lk_X11_278 tT_343 rfl rfl (Nat.le_of_ble_eq_true rfl) (Nat.le_of_ble_eq_true rfl) (d' := d - 1) (by omega) dX11_laysOut_190 ((((((hv.2 c1).2 c2).2.2 c38).2 c39).2.2 x45 e46).1 c47) (fun v9 h49 q50 => ?_)
            obtain ⟨z48, rfl, hS51, q50⟩ := q50
            refine wq_st (st' := [vI z48]) rfl ?_
            refine wq_istore (ls' := [(0, vR 343), (1, vI y1), (2, vI y2), (3, vI y3), (4, vI z48), (5, vI x45)]) (by decide) rfl dX11_laysOut_193 ?_
            refine wq_goto 40 rfl dX11_laysOut_195 ?_
            exact wq_pick [0, 1, 2, 3, 4] rfl (hI_40 y1 y2 y3 z48 h49 (q50 hS51))
          · refine wq_iload 4 rfl dX11_laysOut_94 ?_
            refine wq_aload_n 0 rfl rfl dX11_laysOut_96 ?_
            refine wq_iload_n 2 rfl rfl dX11_laysOut_97 ?_
            refine wq_iload 5 rfl dX11_laysOut_98 ?_
            refine wq_bipush (z := 9) (zlit rfl) rfl dX11_laysOut_100 ?_
            refine wN_V (As := [vI y2, vI x45, vI 9]) vm_X11_of lk_X11_139 tT_343 rfl rfl (Nat.le_of_ble_eq_true rfl) (Nat.le_of_ble_eq_true rfl) (d' := d - 1) (by omega) dX11_laysOut_102 ((((((hv.2 c1).2 c2).2.2 c38).2 c39).2.2 x45 e46).2 c47) (fun v9 h53 q54 => ?_)
            obtain ⟨z52, rfl, hS55, q54⟩ := q54
            refine wq_st (st' := [vI z52, vI y4]) rfl ?_
            refine wq_icmp_ne 185 rfl dX11_laysOut_105 (fun c56 => ?_) (fun c56 => ?_)
            · refine wq_aload_n 0 rfl rfl dX11_laysOut_185 ?_
              refine wq_iload_n 2 rfl rfl dX11_laysOut_186 ?_
              refine wq_iload 4 rfl dX11_laysOut_187 ?_
              refine wq_iload_n 3 rfl rfl dX11_laysOut_189 ?_
              refine wN_V (As := [vI y2, vI y4, vI y3]) vm_X11_passes lk_X11_278 tT_343 rfl rfl (Nat.le_of_ble_eq_true rfl) (Nat.le_of_ble_eq_true rfl) (d' := d - 1) (by omega) dX11_laysOut_190 (q54.1 c56) (fun v9 h58 q59 => ?_)
              obtain ⟨z57, rfl, hS60, q59⟩ := q59
              refine wq_st (st' := [vI z57]) rfl ?_
              refine wq_istore (ls' := [(0, vR 343), (1, vI y1), (2, vI y2), (3, vI y3), (4, vI z57), (5, vI x45)]) (by decide) rfl dX11_laysOut_193 ?_
              refine wq_goto 40 rfl dX11_laysOut_195 ?_
              exact wq_pick [0, 1, 2, 3, 4] rfl (hI_40 y1 y2 y3 z57 h58 (q59 hS60))
            · refine wq_aload_n 0 rfl rfl dX11_laysOut_108 ?_
              refine wq_getR fk_X11_80 tT_343 (fun _ _ _ => rfl) (sh_11_40 hS55) (by decide) dX11_laysOut_109 ?_
              refine wq_aload_n 0 rfl rfl dX11_laysOut_112 ?_
              refine wq_getI fk_X11_244 tT_343 (fun _ _ _ => rfl) dX11_laysOut_113 ?_
              refine wq_iconst (z := 1) (zlit rfl) dX11_laysOut_116 ?_
              refine wq_isub (q54.2 c56).1 dX11_laysOut_117 ?_
              refine wq_dup2 rfl rfl dX11_laysOut_118 ?_
              refine wq_iald tT_367 (q54.2 c56).2.1.1 (q54.2 c56).2.1.2 dX11_laysOut_119 ?_
              refine wq_iconst (z := 1) (zlit rfl) dX11_laysOut_120 ?_
              refine wq_iadd (q54.2 c56).2.2.1 dX11_laysOut_121 ?_
              refine wq_iast tT_367 (q54.2 c56).2.2.2.1.1 (q54.2 c56).2.2.2.1.2 dX11_laysOut_122 ?_
              refine wq_toph (fun h61 e62 => ?_)
              have sh61 : zSh h61 := zSh_of e62 hS55
              refine wq_aload_n 0 rfl rfl dX11_laysOut_123 ?_
              refine wq_getR fk_X11_71 tT_343 (fun _ _ _ => rfl) (sh_11_37 sh61) (by decide) dX11_laysOut_124 ?_
              refine wq_iload 5 rfl dX11_laysOut_127 ?_
              refine wq_aload_n 0 rfl rfl dX11_laysOut_129 ?_
              refine wq_getI fk_X11_241 tT_343 (fun _ _ _ => rfl) dX11_laysOut_130 ?_
              refine wq_iast tT_364 ((q54.2 c56).2.2.2.2 h61 e62).1.1 ((q54.2 c56).2.2.2.2 h61 e62).1.2 dX11_laysOut_133 ?_
              refine wq_toph (fun h63 e64 => ?_)
              have sh63 : zSh h63 := zSh_of e64 sh61
              refine wq_aload_n 0 rfl rfl dX11_laysOut_134 ?_
              refine wq_getR fk_X11_80 tT_343 (fun _ _ _ => rfl) (sh_11_40 sh63) (by decide) dX11_laysOut_135 ?_
              refine wq_aload_n 0 rfl rfl dX11_laysOut_138 ?_
              refine wq_getI fk_X11_244 tT_343 (fun _ _ _ => rfl) dX11_laysOut_139 ?_
              refine wq_iconst (z := 1) (zlit rfl) dX11_laysOut_142 ?_
              refine wq_isub (((q54.2 c56).2.2.2.2 h61 e62).2 h63 e64).1 dX11_laysOut_143 ?_
              refine wq_iald tT_367 (((q54.2 c56).2.2.2.2 h61 e62).2 h63 e64).2.1.1 (((q54.2 c56).2.2.2.2 h61 e62).2 h63 e64).2.1.2 dX11_laysOut_144 ?_
              refine wq_aload_n 0 rfl rfl dX11_laysOut_145 ?_
              refine wq_getR fk_X11_77 tT_343 (fun _ _ _ => rfl) (sh_11_39 sh63) (by decide) dX11_laysOut_146 ?_
              refine wq_aload_n 0 rfl rfl dX11_laysOut_149 ?_
              refine wq_getI fk_X11_244 tT_343 (fun _ _ _ => rfl) dX11_laysOut_150 ?_
              refine wq_iconst (z := 1) (zlit rfl) dX11_laysOut_153 ?_
              refine wq_isub (((q54.2 c56).2.2.2.2 h61 e62).2 h63 e64).2.2.1 dX11_laysOut_154 ?_
              refine wq_iald tT_366 (((q54.2 c56).2.2.2.2 h61 e62).2 h63 e64).2.2.2.1.1 (((q54.2 c56).2.2.2.2 h61 e62).2 h63 e64).2.2.2.1.2 dX11_laysOut_155 ?_
              refine wq_icmp_ge 172 rfl dX11_laysOut_156 (fun c65 => ?_) (fun c65 => ?_)
              · refine wq_aload_n 0 rfl rfl dX11_laysOut_172 ?_
                refine wq_dup rfl dX11_laysOut_173 ?_
                refine wq_getI fk_X11_244 tT_343 (fun _ _ _ => rfl) dX11_laysOut_174 ?_
                refine wq_iconst (z := 1) (zlit rfl) dX11_laysOut_177 ?_
                refine wq_isub ((((q54.2 c56).2.2.2.2 h61 e62).2 h63 e64).2.2.2.2.1 c65).1 dX11_laysOut_178 ?_
                refine wq_putI fk_X11_244 tT_343 rfl rfl dX11_laysOut_179 ?_
                refine wq_toph (fun h66 e67 => ?_)
                have sh66 : zSh h66 := zSh_of e67 sh63
                refine wq_goto 195 rfl dX11_laysOut_182 ?_
                refine wq_goto 40 rfl dX11_laysOut_195 ?_
                exact wq_pick [0, 1, 2, 3, 4] rfl (hI_40 y1 y2 y3 y4 h66 ((((((q54.2 c56).2.2.2.2 h61 e62).2 h63 e64).2.2.2.2.1 c65).2 h66 e67) sh66))
              · refine wq_aload_n 0 rfl rfl dX11_laysOut_159 ?_
                refine wN_V (As := []) vm_X11_goesIn lk_X11_260 tT_343 rfl rfl (Nat.le_of_ble_eq_true rfl) (Nat.le_of_ble_eq_true rfl) (d' := d - 1) (by omega) dX11_laysOut_160 ((((q54.2 c56).2.2.2.2 h61 e62).2 h63 e64).2.2.2.2.2 c65) (fun v9 h69 q70 => ?_)
                obtain ⟨rfl, hS71, q70⟩ := q70
                refine wq_st (st' := []) rfl ?_
                refine wq_iload 5 rfl dX11_laysOut_163 ?_
                refine wq_iconst (z := 1) (zlit rfl) dX11_laysOut_165 ?_
                refine wq_iadd q70.1 dX11_laysOut_166 ?_
                refine wq_topI (fun x72 e73 => ?_)
                refine wq_istore (ls' := [(0, vR 343), (1, vI y1), (2, vI y2), (3, vI y3), (4, vI x72), (5, vI x45)]) (by decide) rfl dX11_laysOut_167 ?_
                refine wq_goto 195 rfl dX11_laysOut_169 ?_
                refine wq_goto 40 rfl dX11_laysOut_195 ?_
                exact wq_pick [0, 1, 2, 3, 4] rfl (hI_40 y1 y2 y3 x72 h69 ((q70.2 x72 e73) hS71))
theorem dX11_expectedOf_0 : decode cX11_expectedOf 0 = .ok (.aload_n 0, 1) := by decide +kernel
theorem dX11_expectedOf_1 : decode cX11_expectedOf 1 = .ok (.getfield 46, 3) := by decide +kernel
theorem dX11_expectedOf_4 : decode cX11_expectedOf 4 = .ok (.iload_n 1, 1) := by decide +kernel
theorem dX11_expectedOf_5 : decode cX11_expectedOf 5 = .ok (.iaload, 1) := by decide +kernel
theorem dX11_expectedOf_6 : decode cX11_expectedOf 6 = .ok (.iconst 4, 1) := by decide +kernel
theorem dX11_expectedOf_7 : decode cX11_expectedOf 7 = .ok (.if_icmp .ne 9, 3) := by decide +kernel
theorem dX11_expectedOf_10 : decode cX11_expectedOf 10 = .ok (.ldc_w 281, 3) := by decide +kernel
theorem dX11_expectedOf_13 : decode cX11_expectedOf 13 = .ok (.goto 4, 3) := by decide +kernel
theorem dX11_expectedOf_16 : decode cX11_expectedOf 16 = .ok (.iconst 0, 1) := by decide +kernel
theorem dX11_expectedOf_17 : decode cX11_expectedOf 17 = .ok (.istore_n 2, 1) := by decide +kernel
theorem dX11_expectedOf_18 : decode cX11_expectedOf 18 = .ok (.aload_n 0, 1) := by decide +kernel
theorem dX11_expectedOf_19 : decode cX11_expectedOf 19 = .ok (.getfield 52, 3) := by decide +kernel
theorem dX11_expectedOf_22 : decode cX11_expectedOf 22 = .ok (.iload_n 1, 1) := by decide +kernel
theorem dX11_expectedOf_23 : decode cX11_expectedOf 23 = .ok (.iaload, 1) := by decide +kernel
theorem dX11_expectedOf_24 : decode cX11_expectedOf 24 = .ok (.istore_n 3, 1) := by decide +kernel
theorem dX11_expectedOf_25 : decode cX11_expectedOf 25 = .ok (.iload_n 3, 1) := by decide +kernel
theorem dX11_expectedOf_26 : decode cX11_expectedOf 26 = .ok (.aload_n 0, 1) := by decide +kernel
theorem dX11_expectedOf_27 : decode cX11_expectedOf 27 = .ok (.getfield 55, 3) := by decide +kernel
theorem dX11_expectedOf_30 : decode cX11_expectedOf 30 = .ok (.iload_n 1, 1) := by decide +kernel
theorem dX11_expectedOf_31 : decode cX11_expectedOf 31 = .ok (.iaload, 1) := by decide +kernel
theorem dX11_expectedOf_32 : decode cX11_expectedOf 32 = .ok (.if_icmp .ge 26, 3) := by decide +kernel
theorem dX11_expectedOf_35 : decode cX11_expectedOf 35 = .ok (.iload_n 2, 1) := by decide +kernel
theorem dX11_expectedOf_36 : decode cX11_expectedOf 36 = .ok (.aload_n 0, 1) := by decide +kernel
theorem dX11_expectedOf_37 : decode cX11_expectedOf 37 = .ok (.getfield 46, 3) := by decide +kernel
theorem dX11_expectedOf_40 : decode cX11_expectedOf 40 = .ok (.iload_n 1, 1) := by decide +kernel
theorem dX11_expectedOf_41 : decode cX11_expectedOf 41 = .ok (.iaload, 1) := by decide +kernel
theorem dX11_expectedOf_42 : decode cX11_expectedOf 42 = .ok (.aload_n 0, 1) := by decide +kernel
theorem dX11_expectedOf_43 : decode cX11_expectedOf 43 = .ok (.getfield 7, 3) := by decide +kernel
theorem dX11_expectedOf_46 : decode cX11_expectedOf 46 = .ok (.iload_n 3, 1) := by decide +kernel
theorem dX11_expectedOf_47 : decode cX11_expectedOf 47 = .ok (.iaload, 1) := by decide +kernel
theorem dX11_expectedOf_48 : decode cX11_expectedOf 48 = .ok (.invokestatic 282, 3) := by decide +kernel
theorem dX11_expectedOf_51 : decode cX11_expectedOf 51 = .ok (.istore_n 2, 1) := by decide +kernel
theorem dX11_expectedOf_52 : decode cX11_expectedOf 52 = .ok (.iinc 3 1, 3) := by decide +kernel
theorem dX11_expectedOf_55 : decode cX11_expectedOf 55 = .ok (.goto (-30), 3) := by decide +kernel
theorem dX11_expectedOf_58 : decode cX11_expectedOf 58 = .ok (.iload_n 2, 1) := by decide +kernel
theorem dX11_expectedOf_59 : decode cX11_expectedOf 59 = .ok (.ireturn, 1) := by decide +kernel
theorem vc_X11_expectedOf_0 {G : zG} {d : Nat} {Q : Option zV → zHp → Prop} (p1 : Int) (h : zHp) (hS : zSh h) (hd : 1 ≤ d) (I_25 : Int → Int → Int → zHp → Prop) (hI_25 : ∀ (y1 : Int) (y2 : Int) (y3 : Int) (h' : zHp), I_25 y1 y2 y3 h' → wpN G d M_X11_expectedOf 25 [(0, vR 343), (1, vI y1), (2, vI y2), (3, vI y3)] [] h' Q) 
    (hv : (((0 : Int) ≤ p1 ∧ p1 < ((60 : Nat) : Int)) ∧ (((gI h 356 p1.toNat) ≠ 4 → (((0 : Int) ≤ p1 ∧ p1 < ((60 : Nat) : Int)) ∧ (∀ x2 : Int, x2 = (gI h 358 p1.toNat) → (zSh h → I_25 p1 0 x2 h)))) ∧ ((gI h 356 p1.toNat) = 4 → (((0 : Int) ≤ p1 ∧ p1 < ((60 : Nat) : Int)) ∧ (∀ x4 : Int, x4 = (gI h 358 p1.toNat) → (zSh h → I_25 p1 65535 x4 h))))))) : wpN G d M_X11_expectedOf 0 [(0, vR 343), (1, vI p1)] [] h Q := by
  refine wq_aload_n 0 rfl rfl dX11_expectedOf_0 ?_
  refine wq_getR fk_X11_46 tT_343 (fun _ _ _ => rfl) (sh_11_25 hS) (by decide) dX11_expectedOf_1 ?_
  refine wq_iload_n 1 rfl rfl dX11_expectedOf_4 ?_
  refine wq_iald tT_356 hv.1.1 hv.1.2 dX11_expectedOf_5 ?_
  refine wq_iconst (z := 4) (zlit rfl) dX11_expectedOf_6 ?_
  refine wq_icmp_ne 16 rfl dX11_expectedOf_7 (fun c1 => ?_) (fun c1 => ?_)
  · refine wq_iconst (z := 0) (zlit rfl) dX11_expectedOf_16 ?_
    refine wq_istore_n (ls' := [(0, vR 343), (1, vI p1), (2, vI 0)]) rfl (by decide) rfl dX11_expectedOf_17 ?_
    refine wq_aload_n 0 rfl rfl dX11_expectedOf_18 ?_
    refine wq_getR fk_X11_52 tT_343 (fun _ _ _ => rfl) (sh_11_27 hS) (by decide) dX11_expectedOf_19 ?_
    refine wq_iload_n 1 rfl rfl dX11_expectedOf_22 ?_
    refine wq_iald tT_358 (hv.2.1 c1).1.1 (hv.2.1 c1).1.2 dX11_expectedOf_23 ?_
    refine wq_topI (fun x2 e3 => ?_)
    refine wq_istore_n (ls' := [(0, vR 343), (1, vI p1), (2, vI 0), (3, vI x2)]) rfl (by decide) rfl dX11_expectedOf_24 ?_
    exact wq_pick [0, 1, 2, 3] rfl (hI_25 p1 0 x2 h (((hv.2.1 c1).2 x2 e3) hS))
  · refine wq_ldc_w (z := 65535) (zlit rfl) kc_X11_281 dX11_expectedOf_10 ?_
    refine wq_goto 17 rfl dX11_expectedOf_13 ?_
    refine wq_istore_n (ls' := [(0, vR 343), (1, vI p1), (2, vI 65535)]) rfl (by decide) rfl dX11_expectedOf_17 ?_
    refine wq_aload_n 0 rfl rfl dX11_expectedOf_18 ?_
    refine wq_getR fk_X11_52 tT_343 (fun _ _ _ => rfl) (sh_11_27 hS) (by decide) dX11_expectedOf_19 ?_
    refine wq_iload_n 1 rfl rfl dX11_expectedOf_22 ?_
    refine wq_iald tT_358 (hv.2.2 c1).1.1 (hv.2.2 c1).1.2 dX11_expectedOf_23 ?_
    refine wq_topI (fun x4 e5 => ?_)
    refine wq_istore_n (ls' := [(0, vR 343), (1, vI p1), (2, vI 65535), (3, vI x4)]) rfl (by decide) rfl dX11_expectedOf_24 ?_
    exact wq_pick [0, 1, 2, 3] rfl (hI_25 p1 65535 x4 h (((hv.2.2 c1).2 x4 e5) hS))
theorem vc_X11_expectedOf_25 {G : zG} {d : Nat} {Q : Option zV → zHp → Prop} (y1 : Int) (y2 : Int) (y3 : Int) (h : zHp) (hS : zSh h) (hd : 1 ≤ d) (I_25 : Int → Int → Int → zHp → Prop) (hI_25 : ∀ (y1 : Int) (y2 : Int) (y3 : Int) (h' : zHp), I_25 y1 y2 y3 h' → wpN G d M_X11_expectedOf 25 [(0, vR 343), (1, vI y1), (2, vI y2), (3, vI y3)] [] h' Q) 
    (hv : (((0 : Int) ≤ y1 ∧ y1 < ((60 : Nat) : Int)) ∧ (((gI h 359 y1.toNat) ≤ y3 → Q (some (vI y2)) h) ∧ (y3 < (gI h 359 y1.toNat) → (((0 : Int) ≤ y1 ∧ y1 < ((60 : Nat) : Int)) ∧ (((0 : Int) ≤ y3 ∧ y3 < ((213 : Nat) : Int)) ∧ (wpN G (d - 1) M_X11_adds 0 (zar 0 [vI y2, vI (gI h 356 y1.toNat), vI (gI h 344 y3.toNat)]) [] h (qI (fun z2 h3 => zSh h3 ∧ ((-2147483648 ≤ y3 + 1 ∧ y3 + 1 ≤ 2147483647) ∧ ∀ x6 : Int, x6 = y3 + 1 → (zSh h3 → I_25 y1 z2 x6 h3))))))))))) : wpN G d M_X11_expectedOf 25 [(0, vR 343), (1, vI y1), (2, vI y2), (3, vI y3)] [] h Q := by
  refine wq_iload_n 3 rfl rfl dX11_expectedOf_25 ?_
  refine wq_aload_n 0 rfl rfl dX11_expectedOf_26 ?_
  refine wq_getR fk_X11_55 tT_343 (fun _ _ _ => rfl) (sh_11_28 hS) (by decide) dX11_expectedOf_27 ?_
  refine wq_iload_n 1 rfl rfl dX11_expectedOf_30 ?_
  refine wq_iald tT_359 hv.1.1 hv.1.2 dX11_expectedOf_31 ?_
  refine wq_icmp_ge 58 rfl dX11_expectedOf_32 (fun c1 => ?_) (fun c1 => ?_)
  · refine wq_iload_n 2 rfl rfl dX11_expectedOf_58 ?_
    exact wp_iret rfl dX11_expectedOf_59 (hv.2.1 c1)
  · refine wq_iload_n 2 rfl rfl dX11_expectedOf_35 ?_
    refine wq_aload_n 0 rfl rfl dX11_expectedOf_36 ?_
    refine wq_getR fk_X11_46 tT_343 (fun _ _ _ => rfl) (sh_11_25 hS) (by decide) dX11_expectedOf_37 ?_
    refine wq_iload_n 1 rfl rfl dX11_expectedOf_40 ?_
    refine wq_iald tT_356 (hv.2.2 c1).1.1 (hv.2.2 c1).1.2 dX11_expectedOf_41 ?_
    refine wq_aload_n 0 rfl rfl dX11_expectedOf_42 ?_
    refine wq_getR fk_X11_7 tT_343 (fun _ _ _ => rfl) (sh_11_0 hS) (by decide) dX11_expectedOf_43 ?_
    refine wq_iload_n 3 rfl rfl dX11_expectedOf_46 ?_
    refine wq_iald tT_344 (hv.2.2 c1).2.1.1 (hv.2.2 c1).2.1.2 dX11_expectedOf_47 ?_
    refine wN_S (As := [vI y2, vI (gI h 356 y1.toNat), vI (gI h 344 y3.toNat)]) md_X11_adds ms_X11_adds lk_X11_282 rfl rfl (Nat.le_of_ble_eq_true rfl) (Nat.le_of_ble_eq_true rfl) (d' := d - 1) (by omega) dX11_expectedOf_48 (hv.2.2 c1).2.2 (fun v9 h3 q4 => ?_)
    obtain ⟨z2, rfl, hS5, q4⟩ := q4
    refine wq_st (st' := [vI z2]) rfl ?_
    refine wq_istore_n (ls' := [(0, vR 343), (1, vI y1), (2, vI z2), (3, vI y3)]) rfl (by decide) rfl dX11_expectedOf_51 ?_
    refine z_nm (y3 + 1) (fun x6 e7 => ?_)
    refine wq_iinc (y := x6) (ls' := [(0, vR 343), (1, vI y1), (2, vI z2), (3, vI x6)]) 3 rfl e7.symm (by rw [e7]; exact q4.1) (by decide) rfl dX11_expectedOf_52 ?_
    refine wq_goto 25 rfl dX11_expectedOf_55 ?_
    exact wq_pick [0, 1, 2, 3] rfl (hI_25 y1 z2 x6 h3 ((q4.2 x6 e7) hS5))
theorem dX11_adds_0 : decode cX11_adds 0 = .ok (.iload_n 1, 1) := by decide +kernel
theorem dX11_adds_1 : decode cX11_adds 1 = .ok (.iconst 4, 1) := by decide +kernel
theorem dX11_adds_2 : decode cX11_adds 2 = .ok (.if_icmp .ge 22, 3) := by decide +kernel
theorem dX11_adds_5 : decode cX11_adds 5 = .ok (.iload_n 1, 1) := by decide +kernel
theorem dX11_adds_6 : decode cX11_adds 6 = .ok (.iconst 2, 1) := by decide +kernel
theorem dX11_adds_7 : decode cX11_adds 7 = .ok (.if_icmp .ne 9, 3) := by decide +kernel
theorem dX11_adds_10 : decode cX11_adds 10 = .ok (.iload_n 0, 1) := by decide +kernel
theorem dX11_adds_11 : decode cX11_adds 11 = .ok (.iload_n 2, 1) := by decide +kernel
theorem dX11_adds_12 : decode cX11_adds 12 = .ok (.ixor, 1) := by decide +kernel
theorem dX11_adds_13 : decode cX11_adds 13 = .ok (.goto 10, 3) := by decide +kernel
theorem dX11_adds_16 : decode cX11_adds 16 = .ok (.iload_n 0, 1) := by decide +kernel
theorem dX11_adds_17 : decode cX11_adds 17 = .ok (.iload_n 2, 1) := by decide +kernel
theorem dX11_adds_18 : decode cX11_adds 18 = .ok (.iadd, 1) := by decide +kernel
theorem dX11_adds_19 : decode cX11_adds 19 = .ok (.ldc_w 285, 3) := by decide +kernel
theorem dX11_adds_22 : decode cX11_adds 22 = .ok (.irem, 1) := by decide +kernel
theorem dX11_adds_23 : decode cX11_adds 23 = .ok (.ireturn, 1) := by decide +kernel
theorem dX11_adds_24 : decode cX11_adds 24 = .ok (.iload_n 0, 1) := by decide +kernel
theorem dX11_adds_25 : decode cX11_adds 25 = .ok (.sipush 256, 3) := by decide +kernel
theorem dX11_adds_28 : decode cX11_adds 28 = .ok (.iload_n 2, 1) := by decide +kernel
theorem dX11_adds_29 : decode cX11_adds 29 = .ok (.imul, 1) := by decide +kernel
theorem dX11_adds_30 : decode cX11_adds 30 = .ok (.ixor, 1) := by decide +kernel
theorem dX11_adds_31 : decode cX11_adds 31 = .ok (.istore_n 3, 1) := by decide +kernel
theorem dX11_adds_32 : decode cX11_adds 32 = .ok (.iconst 0, 1) := by decide +kernel
theorem dX11_adds_33 : decode cX11_adds 33 = .ok (.istore 4, 2) := by decide +kernel
theorem dX11_adds_35 : decode cX11_adds 35 = .ok (.iload 4, 2) := by decide +kernel
theorem dX11_adds_37 : decode cX11_adds 37 = .ok (.bipush 8, 2) := by decide +kernel
theorem dX11_adds_39 : decode cX11_adds 39 = .ok (.if_icmp .ge 46, 3) := by decide +kernel
theorem dX11_adds_42 : decode cX11_adds 42 = .ok (.iload_n 3, 1) := by decide +kernel
theorem dX11_adds_43 : decode cX11_adds 43 = .ok (.ldc_w 286, 3) := by decide +kernel
theorem dX11_adds_46 : decode cX11_adds 46 = .ok (.if_icmp .lt 7, 3) := by decide +kernel
theorem dX11_adds_49 : decode cX11_adds 49 = .ok (.iconst 1, 1) := by decide +kernel
theorem dX11_adds_50 : decode cX11_adds 50 = .ok (.goto 4, 3) := by decide +kernel
theorem dX11_adds_53 : decode cX11_adds 53 = .ok (.iconst 0, 1) := by decide +kernel
theorem dX11_adds_54 : decode cX11_adds 54 = .ok (.istore 5, 2) := by decide +kernel
theorem dX11_adds_56 : decode cX11_adds 56 = .ok (.iload_n 3, 1) := by decide +kernel
theorem dX11_adds_57 : decode cX11_adds 57 = .ok (.iconst 2, 1) := by decide +kernel
theorem dX11_adds_58 : decode cX11_adds 58 = .ok (.imul, 1) := by decide +kernel
theorem dX11_adds_59 : decode cX11_adds 59 = .ok (.ldc_w 285, 3) := by decide +kernel
theorem dX11_adds_62 : decode cX11_adds 62 = .ok (.irem, 1) := by decide +kernel
theorem dX11_adds_63 : decode cX11_adds 63 = .ok (.istore_n 3, 1) := by decide +kernel
theorem dX11_adds_64 : decode cX11_adds 64 = .ok (.iload 5, 2) := by decide +kernel
theorem dX11_adds_66 : decode cX11_adds 66 = .ok (.ifCond .eq 11, 3) := by decide +kernel
theorem dX11_adds_69 : decode cX11_adds 69 = .ok (.iload_n 3, 1) := by decide +kernel
theorem dX11_adds_70 : decode cX11_adds 70 = .ok (.sipush 4129, 3) := by decide +kernel
theorem dX11_adds_73 : decode cX11_adds 73 = .ok (.ixor, 1) := by decide +kernel
theorem dX11_adds_74 : decode cX11_adds 74 = .ok (.goto 4, 3) := by decide +kernel
theorem dX11_adds_77 : decode cX11_adds 77 = .ok (.iload_n 3, 1) := by decide +kernel
theorem dX11_adds_78 : decode cX11_adds 78 = .ok (.istore_n 3, 1) := by decide +kernel
theorem dX11_adds_79 : decode cX11_adds 79 = .ok (.iinc 4 1, 3) := by decide +kernel
theorem dX11_adds_82 : decode cX11_adds 82 = .ok (.goto (-47), 3) := by decide +kernel
theorem dX11_adds_85 : decode cX11_adds 85 = .ok (.iload_n 3, 1) := by decide +kernel
theorem dX11_adds_86 : decode cX11_adds 86 = .ok (.ireturn, 1) := by decide +kernel
theorem vc_X11_adds_0 {G : zG} {d : Nat} {Q : Option zV → zHp → Prop} (p1 : Int) (p2 : Int) (p3 : Int) (h : zHp) (hS : zSh h) (hd : 0 ≤ d) (I_35 : Int → Int → Int → Int → Int → zHp → Prop) (hI_35 : ∀ (y0 : Int) (y1 : Int) (y2 : Int) (y3 : Int) (y4 : Int) (h' : zHp), I_35 y0 y1 y2 y3 y4 h' → wpN G d M_X11_adds 35 [(0, vI y0), (1, vI y1), (2, vI y2), (3, vI y3), (4, vI y4)] [] h' Q) 
    (hv : ((4 ≤ p2 → ((-2147483648 ≤ 256 * p3 ∧ 256 * p3 ≤ 2147483647) ∧ (∀ x2 : Int, x2 = (zxor p1 (256 * p3)) → (zSh h → I_35 p1 p2 p3 x2 0 h)))) ∧ (p2 < 4 → ((p2 ≠ 2 → ((-2147483648 ≤ p1 + p3 ∧ p1 + p3 ≤ 2147483647) ∧ Q (some (vI ((p1 + p3).tmod 65536))) h)) ∧ (p2 = 2 → Q (some (vI (zxor p1 p3))) h))))) : wpN G d M_X11_adds 0 [(0, vI p1), (1, vI p2), (2, vI p3)] [] h Q := by
  refine wq_iload_n 1 rfl rfl dX11_adds_0 ?_
  refine wq_iconst (z := 4) (zlit rfl) dX11_adds_1 ?_
  refine wq_icmp_ge 24 rfl dX11_adds_2 (fun c1 => ?_) (fun c1 => ?_)
  · refine wq_iload_n 0 rfl rfl dX11_adds_24 ?_
    refine wq_sipush (z := 256) (zlit rfl) rfl dX11_adds_25 ?_
    refine wq_iload_n 2 rfl rfl dX11_adds_28 ?_
    refine wq_imul (hv.1 c1).1 dX11_adds_29 ?_
    refine wq_ixor dX11_adds_30 ?_
    refine wq_topI (fun x2 e3 => ?_)
    refine wq_istore_n (ls' := [(0, vI p1), (1, vI p2), (2, vI p3), (3, vI x2)]) rfl (by decide) rfl dX11_adds_31 ?_
    refine wq_iconst (z := 0) (zlit rfl) dX11_adds_32 ?_
    refine wq_istore (ls' := [(0, vI p1), (1, vI p2), (2, vI p3), (3, vI x2), (4, vI 0)]) (by decide) rfl dX11_adds_33 ?_
    exact wq_pick [0, 1, 2, 3, 4] rfl (hI_35 p1 p2 p3 x2 0 h (((hv.1 c1).2 x2 e3) hS))
  · refine wq_iload_n 1 rfl rfl dX11_adds_5 ?_
    refine wq_iconst (z := 2) (zlit rfl) dX11_adds_6 ?_
    refine wq_icmp_ne 16 rfl dX11_adds_7 (fun c4 => ?_) (fun c4 => ?_)
    · refine wq_iload_n 0 rfl rfl dX11_adds_16 ?_
      refine wq_iload_n 2 rfl rfl dX11_adds_17 ?_
      refine wq_iadd ((hv.2 c1).1 c4).1 dX11_adds_18 ?_
      refine wq_ldc_w (z := 65536) (zlit rfl) kc_X11_285 dX11_adds_19 ?_
      refine wq_irem (by decide) dX11_adds_22 ?_
      exact wp_iret rfl dX11_adds_23 ((hv.2 c1).1 c4).2
    · refine wq_iload_n 0 rfl rfl dX11_adds_10 ?_
      refine wq_iload_n 2 rfl rfl dX11_adds_11 ?_
      refine wq_ixor dX11_adds_12 ?_
      refine wq_goto 23 rfl dX11_adds_13 ?_
      exact wp_iret rfl dX11_adds_23 ((hv.2 c1).2 c4)
theorem vc_X11_adds_35 {G : zG} {d : Nat} {Q : Option zV → zHp → Prop} (y0 : Int) (y1 : Int) (y2 : Int) (y3 : Int) (y4 : Int) (h : zHp) (hS : zSh h) (hd : 0 ≤ d) (I_35 : Int → Int → Int → Int → Int → zHp → Prop) (hI_35 : ∀ (y0 : Int) (y1 : Int) (y2 : Int) (y3 : Int) (y4 : Int) (h' : zHp), I_35 y0 y1 y2 y3 y4 h' → wpN G d M_X11_adds 35 [(0, vI y0), (1, vI y1), (2, vI y2), (3, vI y3), (4, vI y4)] [] h' Q) 
    (hv : ((8 ≤ y4 → Q (some (vI y3)) h) ∧ (y4 < 8 → ((y3 < 32768 → ((-2147483648 ≤ y3 * 2 ∧ y3 * 2 ≤ 2147483647) ∧ (∀ x3 : Int, x3 = ((y3 * 2).tmod 65536) → ((-2147483648 ≤ y4 + 1 ∧ y4 + 1 ≤ 2147483647) ∧ ∀ x6 : Int, x6 = y4 + 1 → (zSh h → I_35 y0 y1 y2 x3 x6 h))))) ∧ (32768 ≤ y3 → ((-2147483648 ≤ y3 * 2 ∧ y3 * 2 ≤ 2147483647) ∧ (∀ x8 : Int, x8 = ((y3 * 2).tmod 65536) → (∀ x11 : Int, x11 = (zxor x8 4129) → ((-2147483648 ≤ y4 + 1 ∧ y4 + 1 ≤ 2147483647) ∧ ∀ x13 : Int, x13 = y4 + 1 → (zSh h → I_35 y0 y1 y2 x11 x13 h)))))))))) : wpN G d M_X11_adds 35 [(0, vI y0), (1, vI y1), (2, vI y2), (3, vI y3), (4, vI y4)] [] h Q := by
  refine wq_iload 4 rfl dX11_adds_35 ?_
  refine wq_bipush (z := 8) (zlit rfl) rfl dX11_adds_37 ?_
  refine wq_icmp_ge 85 rfl dX11_adds_39 (fun c1 => ?_) (fun c1 => ?_)
  · refine wq_iload_n 3 rfl rfl dX11_adds_85 ?_
    exact wp_iret rfl dX11_adds_86 (hv.1 c1)
  · refine wq_iload_n 3 rfl rfl dX11_adds_42 ?_
    refine wq_ldc_w (z := 32768) (zlit rfl) kc_X11_286 dX11_adds_43 ?_
    refine wq_icmp_lt 53 rfl dX11_adds_46 (fun c2 => ?_) (fun c2 => ?_)
    · refine wq_iconst (z := 0) (zlit rfl) dX11_adds_53 ?_
      refine wq_istore (ls' := [(0, vI y0), (1, vI y1), (2, vI y2), (3, vI y3), (4, vI y4), (5, vI 0)]) (by decide) rfl dX11_adds_54 ?_
      refine wq_iload_n 3 rfl rfl dX11_adds_56 ?_
      refine wq_iconst (z := 2) (zlit rfl) dX11_adds_57 ?_
      refine wq_imul ((hv.2 c1).1 c2).1 dX11_adds_58 ?_
      refine wq_ldc_w (z := 65536) (zlit rfl) kc_X11_285 dX11_adds_59 ?_
      refine wq_irem (by decide) dX11_adds_62 ?_
      refine wq_topI (fun x3 e4 => ?_)
      refine wq_istore_n (ls' := [(0, vI y0), (1, vI y1), (2, vI y2), (3, vI x3), (4, vI y4), (5, vI 0)]) rfl (by decide) rfl dX11_adds_63 ?_
      refine wq_iload 5 rfl dX11_adds_64 ?_
      refine wq_if_eq 77 rfl dX11_adds_66 (fun _ => ?_) (fun c5 => absurd c5 (by decide))
      refine wq_iload_n 3 rfl rfl dX11_adds_77 ?_
      refine wq_istore_n (ls' := [(0, vI y0), (1, vI y1), (2, vI y2), (3, vI x3), (4, vI y4), (5, vI 0)]) rfl (by decide) rfl dX11_adds_78 ?_
      refine z_nm (y4 + 1) (fun x6 e7 => ?_)
      refine wq_iinc (y := x6) (ls' := [(0, vI y0), (1, vI y1), (2, vI y2), (3, vI x3), (4, vI x6), (5, vI 0)]) 4 rfl e7.symm (by rw [e7]; exact (((hv.2 c1).1 c2).2 x3 e4).1) (by decide) rfl dX11_adds_79 ?_
      refine wq_goto 35 rfl dX11_adds_82 ?_
      exact wq_pick [0, 1, 2, 3, 4] rfl (hI_35 y0 y1 y2 x3 x6 h (((((hv.2 c1).1 c2).2 x3 e4).2 x6 e7) hS))
    · refine wq_iconst (z := 1) (zlit rfl) dX11_adds_49 ?_
      refine wq_goto 54 rfl dX11_adds_50 ?_
      refine wq_istore (ls' := [(0, vI y0), (1, vI y1), (2, vI y2), (3, vI y3), (4, vI y4), (5, vI 1)]) (by decide) rfl dX11_adds_54 ?_
      refine wq_iload_n 3 rfl rfl dX11_adds_56 ?_
      refine wq_iconst (z := 2) (zlit rfl) dX11_adds_57 ?_
      refine wq_imul ((hv.2 c1).2 c2).1 dX11_adds_58 ?_
      refine wq_ldc_w (z := 65536) (zlit rfl) kc_X11_285 dX11_adds_59 ?_
      refine wq_irem (by decide) dX11_adds_62 ?_
      refine wq_topI (fun x8 e9 => ?_)
      refine wq_istore_n (ls' := [(0, vI y0), (1, vI y1), (2, vI y2), (3, vI x8), (4, vI y4), (5, vI 1)]) rfl (by decide) rfl dX11_adds_63 ?_
      refine wq_iload 5 rfl dX11_adds_64 ?_
      refine wq_if_eq 77 rfl dX11_adds_66 (fun c10 => absurd c10 (by decide)) (fun _ => ?_)
      refine wq_iload_n 3 rfl rfl dX11_adds_69 ?_
      refine wq_sipush (z := 4129) (zlit rfl) rfl dX11_adds_70 ?_
      refine wq_ixor dX11_adds_73 ?_
      refine wq_goto 78 rfl dX11_adds_74 ?_
      refine wq_topI (fun x11 e12 => ?_)
      refine wq_istore_n (ls' := [(0, vI y0), (1, vI y1), (2, vI y2), (3, vI x11), (4, vI y4), (5, vI 1)]) rfl (by decide) rfl dX11_adds_78 ?_
      refine z_nm (y4 + 1) (fun x13 e14 => ?_)
      refine wq_iinc (y := x13) (ls' := [(0, vI y0), (1, vI y1), (2, vI y2), (3, vI x11), (4, vI x13), (5, vI 1)]) 4 rfl e14.symm (by rw [e14]; exact ((((hv.2 c1).2 c2).2 x8 e9) x11 e12).1) (by decide) rfl dX11_adds_79 ?_
      refine wq_goto 35 rfl dX11_adds_82 ?_
      exact wq_pick [0, 1, 2, 3, 4] rfl (hI_35 y0 y1 y2 x11 x13 h ((((((hv.2 c1).2 c2).2 x8 e9) x11 e12).2 x13 e14) hS))
theorem dX11_isWrong_0 : decode cX11_isWrong 0 = .ok (.aload_n 0, 1) := by decide +kernel
theorem dX11_isWrong_1 : decode cX11_isWrong 1 = .ok (.getfield 46, 3) := by decide +kernel
theorem dX11_isWrong_4 : decode cX11_isWrong 4 = .ok (.iload_n 1, 1) := by decide +kernel
theorem dX11_isWrong_5 : decode cX11_isWrong 5 = .ok (.iaload, 1) := by decide +kernel
theorem dX11_isWrong_6 : decode cX11_isWrong 6 = .ok (.iconst 1, 1) := by decide +kernel
theorem dX11_isWrong_7 : decode cX11_isWrong 7 = .ok (.if_icmp .le 22, 3) := by decide +kernel
theorem dX11_isWrong_10 : decode cX11_isWrong 10 = .ok (.aload_n 0, 1) := by decide +kernel
theorem dX11_isWrong_11 : decode cX11_isWrong 11 = .ok (.iload_n 1, 1) := by decide +kernel
theorem dX11_isWrong_12 : decode cX11_isWrong 12 = .ok (.invokevirtual 256, 3) := by decide +kernel
theorem dX11_isWrong_15 : decode cX11_isWrong 15 = .ok (.aload_n 0, 1) := by decide +kernel
theorem dX11_isWrong_16 : decode cX11_isWrong 16 = .ok (.iload_n 1, 1) := by decide +kernel
theorem dX11_isWrong_17 : decode cX11_isWrong 17 = .ok (.invokevirtual 287, 3) := by decide +kernel
theorem dX11_isWrong_20 : decode cX11_isWrong 20 = .ok (.i2l, 1) := by decide +kernel
theorem dX11_isWrong_21 : decode cX11_isWrong 21 = .ok (.lcmp, 1) := by decide +kernel
theorem dX11_isWrong_22 : decode cX11_isWrong 22 = .ok (.ifCond .eq 7, 3) := by decide +kernel
theorem dX11_isWrong_25 : decode cX11_isWrong 25 = .ok (.iconst 1, 1) := by decide +kernel
theorem dX11_isWrong_26 : decode cX11_isWrong 26 = .ok (.goto 4, 3) := by decide +kernel
theorem dX11_isWrong_29 : decode cX11_isWrong 29 = .ok (.iconst 0, 1) := by decide +kernel
theorem dX11_isWrong_30 : decode cX11_isWrong 30 = .ok (.ireturn, 1) := by decide +kernel
theorem vc_X11_isWrong_0 {G : zG} {d : Nat} {Q : Option zV → zHp → Prop} (p1 : Int) (h : zHp) (hS : zSh h) (hd : 2 ≤ d)  
    (hv : (((0 : Int) ≤ p1 ∧ p1 < ((60 : Nat) : Int)) ∧ (((gI h 356 p1.toNat) ≤ 1 → Q (some (vI 0)) h) ∧ (1 < (gI h 356 p1.toNat) → (wpN G (d - 1) M_X11_valueOf 0 (zar 0 [vR 343, vI p1]) [] h (qL (fun z2 h3 => zSh h3 ∧ (wpN G (d - 1) M_X11_expectedOf 0 (zar 0 [vR 343, vI p1]) [] h3 (qI (fun z6 h7 => zSh h7 ∧ ((z2 = z6 → Q (some (vI 0)) h7) ∧ (z2 ≠ z6 → Q (some (vI 1)) h7)))))))))))) : wpN G d M_X11_isWrong 0 [(0, vR 343), (1, vI p1)] [] h Q := by
  refine wq_aload_n 0 rfl rfl dX11_isWrong_0 ?_
  refine wq_getR fk_X11_46 tT_343 (fun _ _ _ => rfl) (sh_11_25 hS) (by decide) dX11_isWrong_1 ?_
  refine wq_iload_n 1 rfl rfl dX11_isWrong_4 ?_
  refine wq_iald tT_356 hv.1.1 hv.1.2 dX11_isWrong_5 ?_
  refine wq_iconst (z := 1) (zlit rfl) dX11_isWrong_6 ?_
  refine wq_icmp_le 29 rfl dX11_isWrong_7 (fun c1 => ?_) (fun c1 => ?_)
  · refine wq_iconst (z := 0) (zlit rfl) dX11_isWrong_29 ?_
    exact wp_zret (Or.inl rfl) rfl dX11_isWrong_30 (hv.2.1 c1)
  · refine wq_aload_n 0 rfl rfl dX11_isWrong_10 ?_
    refine wq_iload_n 1 rfl rfl dX11_isWrong_11 ?_
    refine wN_V (As := [vI p1]) vm_X11_valueOf lk_X11_256 tT_343 rfl rfl (Nat.le_of_ble_eq_true rfl) (Nat.le_of_ble_eq_true rfl) (d' := d - 1) (by omega) dX11_isWrong_12 (hv.2.2 c1) (fun v9 h3 q4 => ?_)
    obtain ⟨z2, rfl, hS5, q4⟩ := q4
    refine wq_st (st' := [vL z2]) rfl ?_
    refine wq_aload_n 0 rfl rfl dX11_isWrong_15 ?_
    refine wq_iload_n 1 rfl rfl dX11_isWrong_16 ?_
    refine wN_V (As := [vI p1]) vm_X11_expectedOf lk_X11_287 tT_343 rfl rfl (Nat.le_of_ble_eq_true rfl) (Nat.le_of_ble_eq_true rfl) (d' := d - 1) (by omega) dX11_isWrong_17 q4 (fun v9 h7 q8 => ?_)
    obtain ⟨z6, rfl, hS9, q8⟩ := q8
    refine wq_st (st' := [vI z6, vL z2]) rfl ?_
    refine wq_i2l dX11_isWrong_20 ?_
    refine wq_lcmp_eq 29 rfl dX11_isWrong_21 dX11_isWrong_22 (fun c10 => ?_) (fun c10 => ?_)
    · refine wq_iconst (z := 0) (zlit rfl) dX11_isWrong_29 ?_
      exact wp_zret (Or.inl rfl) rfl dX11_isWrong_30 (q8.1 c10)
    · refine wq_iconst (z := 1) (zlit rfl) dX11_isWrong_25 ?_
      refine wq_goto 30 rfl dX11_isWrong_26 ?_
      exact wp_zret (Or.inr rfl) rfl dX11_isWrong_30 (q8.2 c10)
theorem dX11_wrongs_0 : decode cX11_wrongs 0 = .ok (.iconst 0, 1) := by decide +kernel
theorem dX11_wrongs_1 : decode cX11_wrongs 1 = .ok (.istore_n 1, 1) := by decide +kernel
theorem dX11_wrongs_2 : decode cX11_wrongs 2 = .ok (.iconst 0, 1) := by decide +kernel
theorem dX11_wrongs_3 : decode cX11_wrongs 3 = .ok (.istore_n 2, 1) := by decide +kernel
theorem dX11_wrongs_4 : decode cX11_wrongs 4 = .ok (.iload_n 2, 1) := by decide +kernel
theorem dX11_wrongs_5 : decode cX11_wrongs 5 = .ok (.aload_n 0, 1) := by decide +kernel
theorem dX11_wrongs_6 : decode cX11_wrongs 6 = .ok (.getfield 235, 3) := by decide +kernel
theorem dX11_wrongs_9 : decode cX11_wrongs 9 = .ok (.if_icmp .ge 25, 3) := by decide +kernel
theorem dX11_wrongs_12 : decode cX11_wrongs 12 = .ok (.iload_n 1, 1) := by decide +kernel
theorem dX11_wrongs_13 : decode cX11_wrongs 13 = .ok (.aload_n 0, 1) := by decide +kernel
theorem dX11_wrongs_14 : decode cX11_wrongs 14 = .ok (.iload_n 2, 1) := by decide +kernel
theorem dX11_wrongs_15 : decode cX11_wrongs 15 = .ok (.invokevirtual 290, 3) := by decide +kernel
theorem dX11_wrongs_18 : decode cX11_wrongs 18 = .ok (.ifCond .eq 7, 3) := by decide +kernel
theorem dX11_wrongs_21 : decode cX11_wrongs 21 = .ok (.iconst 1, 1) := by decide +kernel
theorem dX11_wrongs_22 : decode cX11_wrongs 22 = .ok (.goto 4, 3) := by decide +kernel
theorem dX11_wrongs_25 : decode cX11_wrongs 25 = .ok (.iconst 0, 1) := by decide +kernel
theorem dX11_wrongs_26 : decode cX11_wrongs 26 = .ok (.iadd, 1) := by decide +kernel
theorem dX11_wrongs_27 : decode cX11_wrongs 27 = .ok (.istore_n 1, 1) := by decide +kernel
theorem dX11_wrongs_28 : decode cX11_wrongs 28 = .ok (.iinc 2 1, 3) := by decide +kernel
theorem dX11_wrongs_31 : decode cX11_wrongs 31 = .ok (.goto (-27), 3) := by decide +kernel
theorem dX11_wrongs_34 : decode cX11_wrongs 34 = .ok (.iload_n 1, 1) := by decide +kernel
theorem dX11_wrongs_35 : decode cX11_wrongs 35 = .ok (.ireturn, 1) := by decide +kernel
theorem vc_X11_wrongs_0 {G : zG} {d : Nat} {Q : Option zV → zHp → Prop}  (h : zHp) (hS : zSh h) (hd : 3 ≤ d) (I_4 : Int → Int → zHp → Prop) (hI_4 : ∀ (y1 : Int) (y2 : Int) (h' : zHp), I_4 y1 y2 h' → wpN G d M_X11_wrongs 4 [(0, vR 343), (1, vI y1), (2, vI y2)] [] h' Q) 
    (hv : (zSh h → I_4 0 0 h)) : wpN G d M_X11_wrongs 0 [(0, vR 343)] [] h Q := by
  refine wq_iconst (z := 0) (zlit rfl) dX11_wrongs_0 ?_
  refine wq_istore_n (ls' := [(0, vR 343), (1, vI 0)]) rfl (by decide) rfl dX11_wrongs_1 ?_
  refine wq_iconst (z := 0) (zlit rfl) dX11_wrongs_2 ?_
  refine wq_istore_n (ls' := [(0, vR 343), (1, vI 0), (2, vI 0)]) rfl (by decide) rfl dX11_wrongs_3 ?_
  exact wq_pick [0, 1, 2] rfl (hI_4 0 0 h (hv hS))
theorem vc_X11_wrongs_4 {G : zG} {d : Nat} {Q : Option zV → zHp → Prop} (y1 : Int) (y2 : Int) (h : zHp) (hS : zSh h) (hd : 3 ≤ d) (I_4 : Int → Int → zHp → Prop) (hI_4 : ∀ (y1 : Int) (y2 : Int) (h' : zHp), I_4 y1 y2 h' → wpN G d M_X11_wrongs 4 [(0, vR 343), (1, vI y1), (2, vI y2)] [] h' Q) 
    (hv : (((gI h 343 31) ≤ y2 → Q (some (vI y1)) h) ∧ (y2 < (gI h 343 31) → (wpN G (d - 1) M_X11_isWrong 0 (zar 0 [vR 343, vI y2]) [] h (qI (fun z2 h3 => zSh h3 ∧ ((z2 = 0 → ((-2147483648 ≤ y1 + 0 ∧ y1 + 0 ≤ 2147483647) ∧ (∀ x7 : Int, x7 = (y1 + 0) → ((-2147483648 ≤ y2 + 1 ∧ y2 + 1 ≤ 2147483647) ∧ ∀ x9 : Int, x9 = y2 + 1 → (zSh h3 → I_4 x7 x9 h3))))) ∧ (z2 ≠ 0 → ((-2147483648 ≤ y1 + 1 ∧ y1 + 1 ≤ 2147483647) ∧ (∀ x11 : Int, x11 = (y1 + 1) → ((-2147483648 ≤ y2 + 1 ∧ y2 + 1 ≤ 2147483647) ∧ ∀ x13 : Int, x13 = y2 + 1 → (zSh h3 → I_4 x11 x13 h3)))))))))))) : wpN G d M_X11_wrongs 4 [(0, vR 343), (1, vI y1), (2, vI y2)] [] h Q := by
  refine wq_iload_n 2 rfl rfl dX11_wrongs_4 ?_
  refine wq_aload_n 0 rfl rfl dX11_wrongs_5 ?_
  refine wq_getI fk_X11_235 tT_343 (fun _ _ _ => rfl) dX11_wrongs_6 ?_
  refine wq_icmp_ge 34 rfl dX11_wrongs_9 (fun c1 => ?_) (fun c1 => ?_)
  · refine wq_iload_n 1 rfl rfl dX11_wrongs_34 ?_
    exact wp_iret rfl dX11_wrongs_35 (hv.1 c1)
  · refine wq_iload_n 1 rfl rfl dX11_wrongs_12 ?_
    refine wq_aload_n 0 rfl rfl dX11_wrongs_13 ?_
    refine wq_iload_n 2 rfl rfl dX11_wrongs_14 ?_
    refine wN_V (As := [vI y2]) vm_X11_isWrong lk_X11_290 tT_343 rfl rfl (Nat.le_of_ble_eq_true rfl) (Nat.le_of_ble_eq_true rfl) (d' := d - 1) (by omega) dX11_wrongs_15 (hv.2 c1) (fun v9 h3 q4 => ?_)
    obtain ⟨z2, rfl, hS5, q4⟩ := q4
    refine wq_st (st' := [vI z2, vI y1]) rfl ?_
    refine wq_if_eq 25 rfl dX11_wrongs_18 (fun c6 => ?_) (fun c6 => ?_)
    · refine wq_iconst (z := 0) (zlit rfl) dX11_wrongs_25 ?_
      refine wq_iadd (q4.1 c6).1 dX11_wrongs_26 ?_
      refine wq_topI (fun x7 e8 => ?_)
      refine wq_istore_n (ls' := [(0, vR 343), (1, vI x7), (2, vI y2)]) rfl (by decide) rfl dX11_wrongs_27 ?_
      refine z_nm (y2 + 1) (fun x9 e10 => ?_)
      refine wq_iinc (y := x9) (ls' := [(0, vR 343), (1, vI x7), (2, vI x9)]) 2 rfl e10.symm (by rw [e10]; exact ((q4.1 c6).2 x7 e8).1) (by decide) rfl dX11_wrongs_28 ?_
      refine wq_goto 4 rfl dX11_wrongs_31 ?_
      exact wq_pick [0, 1, 2] rfl (hI_4 x7 x9 h3 ((((q4.1 c6).2 x7 e8).2 x9 e10) hS5))
    · refine wq_iconst (z := 1) (zlit rfl) dX11_wrongs_21 ?_
      refine wq_goto 26 rfl dX11_wrongs_22 ?_
      refine wq_iadd (q4.2 c6).1 dX11_wrongs_26 ?_
      refine wq_topI (fun x11 e12 => ?_)
      refine wq_istore_n (ls' := [(0, vR 343), (1, vI x11), (2, vI y2)]) rfl (by decide) rfl dX11_wrongs_27 ?_
      refine z_nm (y2 + 1) (fun x13 e14 => ?_)
      refine wq_iinc (y := x13) (ls' := [(0, vR 343), (1, vI x11), (2, vI x13)]) 2 rfl e14.symm (by rw [e14]; exact ((q4.2 c6).2 x11 e12).1) (by decide) rfl dX11_wrongs_28 ?_
      refine wq_goto 4 rfl dX11_wrongs_31 ?_
      exact wq_pick [0, 1, 2] rfl (hI_4 x11 x13 h3 ((((q4.2 c6).2 x11 e12).2 x13 e14) hS5))
theorem dX11_puts_0 : decode cX11_puts 0 = .ok (.lload_n 2, 1) := by decide +kernel
theorem dX11_puts_1 : decode cX11_puts 1 = .ok (.lstore 4, 2) := by decide +kernel
theorem dX11_puts_3 : decode cX11_puts 3 = .ok (.iconst 0, 1) := by decide +kernel
theorem dX11_puts_4 : decode cX11_puts 4 = .ok (.istore 6, 2) := by decide +kernel
theorem dX11_puts_6 : decode cX11_puts 6 = .ok (.iload 6, 2) := by decide +kernel
theorem dX11_puts_8 : decode cX11_puts 8 = .ok (.aload_n 0, 1) := by decide +kernel
theorem dX11_puts_9 : decode cX11_puts 9 = .ok (.getfield 43, 3) := by decide +kernel
theorem dX11_puts_12 : decode cX11_puts 12 = .ok (.iload_n 1, 1) := by decide +kernel
theorem dX11_puts_13 : decode cX11_puts 13 = .ok (.iaload, 1) := by decide +kernel
theorem dX11_puts_14 : decode cX11_puts 14 = .ok (.if_icmp .ge 68, 3) := by decide +kernel
theorem dX11_puts_17 : decode cX11_puts 17 = .ok (.aload_n 0, 1) := by decide +kernel
theorem dX11_puts_18 : decode cX11_puts 18 = .ok (.getfield 7, 3) := by decide +kernel
theorem dX11_puts_21 : decode cX11_puts 21 = .ok (.aload_n 0, 1) := by decide +kernel
theorem dX11_puts_22 : decode cX11_puts 22 = .ok (.getfield 49, 3) := by decide +kernel
theorem dX11_puts_25 : decode cX11_puts 25 = .ok (.iload_n 1, 1) := by decide +kernel
theorem dX11_puts_26 : decode cX11_puts 26 = .ok (.iaload, 1) := by decide +kernel
theorem dX11_puts_27 : decode cX11_puts 27 = .ok (.iconst 1, 1) := by decide +kernel
theorem dX11_puts_28 : decode cX11_puts 28 = .ok (.if_icmp .ne 15, 3) := by decide +kernel
theorem dX11_puts_31 : decode cX11_puts 31 = .ok (.aload_n 0, 1) := by decide +kernel
theorem dX11_puts_32 : decode cX11_puts 32 = .ok (.getfield 40, 3) := by decide +kernel
theorem dX11_puts_35 : decode cX11_puts 35 = .ok (.iload_n 1, 1) := by decide +kernel
theorem dX11_puts_36 : decode cX11_puts 36 = .ok (.iaload, 1) := by decide +kernel
theorem dX11_puts_37 : decode cX11_puts 37 = .ok (.iload 6, 2) := by decide +kernel
theorem dX11_puts_39 : decode cX11_puts 39 = .ok (.iadd, 1) := by decide +kernel
theorem dX11_puts_40 : decode cX11_puts 40 = .ok (.goto 21, 3) := by decide +kernel
theorem dX11_puts_43 : decode cX11_puts 43 = .ok (.aload_n 0, 1) := by decide +kernel
theorem dX11_puts_44 : decode cX11_puts 44 = .ok (.getfield 40, 3) := by decide +kernel
theorem dX11_puts_47 : decode cX11_puts 47 = .ok (.iload_n 1, 1) := by decide +kernel
theorem dX11_puts_48 : decode cX11_puts 48 = .ok (.iaload, 1) := by decide +kernel
theorem dX11_puts_49 : decode cX11_puts 49 = .ok (.aload_n 0, 1) := by decide +kernel
theorem dX11_puts_50 : decode cX11_puts 50 = .ok (.getfield 43, 3) := by decide +kernel
theorem dX11_puts_53 : decode cX11_puts 53 = .ok (.iload_n 1, 1) := by decide +kernel
theorem dX11_puts_54 : decode cX11_puts 54 = .ok (.iaload, 1) := by decide +kernel
theorem dX11_puts_55 : decode cX11_puts 55 = .ok (.iadd, 1) := by decide +kernel
theorem dX11_puts_56 : decode cX11_puts 56 = .ok (.iconst 1, 1) := by decide +kernel
theorem dX11_puts_57 : decode cX11_puts 57 = .ok (.isub, 1) := by decide +kernel
theorem dX11_puts_58 : decode cX11_puts 58 = .ok (.iload 6, 2) := by decide +kernel
theorem dX11_puts_60 : decode cX11_puts 60 = .ok (.isub, 1) := by decide +kernel
theorem dX11_puts_61 : decode cX11_puts 61 = .ok (.lload 4, 2) := by decide +kernel
theorem dX11_puts_63 : decode cX11_puts 63 = .ok (.ldc2_w 293, 3) := by decide +kernel
theorem dX11_puts_66 : decode cX11_puts 66 = .ok (.land, 1) := by decide +kernel
theorem dX11_puts_67 : decode cX11_puts 67 = .ok (.l2i, 1) := by decide +kernel
theorem dX11_puts_68 : decode cX11_puts 68 = .ok (.iastore, 1) := by decide +kernel
theorem dX11_puts_69 : decode cX11_puts 69 = .ok (.lload 4, 2) := by decide +kernel
theorem dX11_puts_71 : decode cX11_puts 71 = .ok (.bipush 8, 2) := by decide +kernel
theorem dX11_puts_73 : decode cX11_puts 73 = .ok (.lshr, 1) := by decide +kernel
theorem dX11_puts_74 : decode cX11_puts 74 = .ok (.lstore 4, 2) := by decide +kernel
theorem dX11_puts_76 : decode cX11_puts 76 = .ok (.iinc 6 1, 3) := by decide +kernel
theorem dX11_puts_79 : decode cX11_puts 79 = .ok (.goto (-73), 3) := by decide +kernel
theorem dX11_puts_82 : decode cX11_puts 82 = .ok (.return_, 1) := by decide +kernel
theorem vc_X11_puts_0 {G : zG} {d : Nat} {Q : Option zV → zHp → Prop} (p1 : Int) (p2 : Int) (h : zHp) (hS : zSh h) (hd : 0 ≤ d) (I_6 : Int → Int → Int → Int → zHp → Prop) (hI_6 : ∀ (y1 : Int) (y2 : Int) (y4 : Int) (y6 : Int) (h' : zHp), I_6 y1 y2 y4 y6 h' → wpN G d M_X11_puts 6 [(0, vR 343), (1, vI y1), (2, vL y2), (4, vL y4), (6, vI y6)] [] h' Q) 
    (hv : (zSh h → I_6 p1 p2 p2 0 h)) : wpN G d M_X11_puts 0 [(0, vR 343), (1, vI p1), (2, vL p2)] [] h Q := by
  refine wq_lload_n 2 rfl rfl dX11_puts_0 ?_
  refine wq_lstore (ls' := [(0, vR 343), (1, vI p1), (2, vL p2), (4, vL p2)]) (by decide) rfl dX11_puts_1 ?_
  refine wq_iconst (z := 0) (zlit rfl) dX11_puts_3 ?_
  refine wq_istore (ls' := [(0, vR 343), (1, vI p1), (2, vL p2), (4, vL p2), (6, vI 0)]) (by decide) rfl dX11_puts_4 ?_
  exact wq_pick [0, 1, 2, 3, 4] rfl (hI_6 p1 p2 p2 0 h (hv hS))
theorem vc_X11_puts_6 {G : zG} {d : Nat} {Q : Option zV → zHp → Prop} (y1 : Int) (y2 : Int) (y4 : Int) (y6 : Int) (h : zHp) (hS : zSh h) (hd : 0 ≤ d) (I_6 : Int → Int → Int → Int → zHp → Prop) (hI_6 : ∀ (y1 : Int) (y2 : Int) (y4 : Int) (y6 : Int) (h' : zHp), I_6 y1 y2 y4 y6 h' → wpN G d M_X11_puts 6 [(0, vR 343), (1, vI y1), (2, vL y2), (4, vL y4), (6, vI y6)] [] h' Q) 
    (hv : (((0 : Int) ≤ y1 ∧ y1 < ((60 : Nat) : Int)) ∧ (((gI h 355 y1.toNat) ≤ y6 → Q none h) ∧ (y6 < (gI h 355 y1.toNat) → (((0 : Int) ≤ y1 ∧ y1 < ((60 : Nat) : Int)) ∧ (((gI h 357 y1.toNat) ≠ 1 → (((0 : Int) ≤ y1 ∧ y1 < ((60 : Nat) : Int)) ∧ (((0 : Int) ≤ y1 ∧ y1 < ((60 : Nat) : Int)) ∧ ((-2147483648 ≤ (gI h 354 y1.toNat) + (gI h 355 y1.toNat) ∧ (gI h 354 y1.toNat) + (gI h 355 y1.toNat) ≤ 2147483647) ∧ ((-2147483648 ≤ ((gI h 354 y1.toNat) + (gI h 355 y1.toNat)) - 1 ∧ ((gI h 354 y1.toNat) + (gI h 355 y1.toNat)) - 1 ≤ 2147483647) ∧ ((-2147483648 ≤ (((gI h 354 y1.toNat) + (gI h 355 y1.toNat)) - 1) - y6 ∧ (((gI h 354 y1.toNat) + (gI h 355 y1.toNat)) - 1) - y6 ≤ 2147483647) ∧ (((0 : Int) ≤ ((((gI h 354 y1.toNat) + (gI h 355 y1.toNat)) - 1) - y6) ∧ ((((gI h 354 y1.toNat) + (gI h 355 y1.toNat)) - 1) - y6) < ((213 : Nat) : Int)) ∧ (∀ h3 : zHp, h3 = sI h 344 ((((gI h 354 y1.toNat) + (gI h 355 y1.toNat)) - 1) - y6).toNat (w32 (zandL y4 255)) → (∀ x5 : Int, x5 = (zshr y4 8) → ((-2147483648 ≤ y6 + 1 ∧ y6 + 1 ≤ 2147483647) ∧ ∀ x7 : Int, x7 = y6 + 1 → (zSh h3 → I_6 y1 y2 x5 x7 h3))))))))))) ∧ ((gI h 357 y1.toNat) = 1 → (((0 : Int) ≤ y1 ∧ y1 < ((60 : Nat) : Int)) ∧ ((-2147483648 ≤ (gI h 354 y1.toNat) + y6 ∧ (gI h 354 y1.toNat) + y6 ≤ 2147483647) ∧ (((0 : Int) ≤ ((gI h 354 y1.toNat) + y6) ∧ ((gI h 354 y1.toNat) + y6) < ((213 : Nat) : Int)) ∧ (∀ h9 : zHp, h9 = sI h 344 ((gI h 354 y1.toNat) + y6).toNat (w32 (zandL y4 255)) → (∀ x11 : Int, x11 = (zshr y4 8) → ((-2147483648 ≤ y6 + 1 ∧ y6 + 1 ≤ 2147483647) ∧ ∀ x13 : Int, x13 = y6 + 1 → (zSh h9 → I_6 y1 y2 x11 x13 h9)))))))))))))) : wpN G d M_X11_puts 6 [(0, vR 343), (1, vI y1), (2, vL y2), (4, vL y4), (6, vI y6)] [] h Q := by
  refine wq_iload 4 rfl dX11_puts_6 ?_
  refine wq_aload_n 0 rfl rfl dX11_puts_8 ?_
  refine wq_getR fk_X11_43 tT_343 (fun _ _ _ => rfl) (sh_11_24 hS) (by decide) dX11_puts_9 ?_
  refine wq_iload_n 1 rfl rfl dX11_puts_12 ?_
  refine wq_iald tT_355 hv.1.1 hv.1.2 dX11_puts_13 ?_
  refine wq_icmp_ge 82 rfl dX11_puts_14 (fun c1 => ?_) (fun c1 => ?_)
  · exact wp_vret rfl dX11_puts_82 (hv.2.1 c1)
  · refine wq_aload_n 0 rfl rfl dX11_puts_17 ?_
    refine wq_getR fk_X11_7 tT_343 (fun _ _ _ => rfl) (sh_11_0 hS) (by decide) dX11_puts_18 ?_
    refine wq_aload_n 0 rfl rfl dX11_puts_21 ?_
    refine wq_getR fk_X11_49 tT_343 (fun _ _ _ => rfl) (sh_11_26 hS) (by decide) dX11_puts_22 ?_
    refine wq_iload_n 1 rfl rfl dX11_puts_25 ?_
    refine wq_iald tT_357 (hv.2.2 c1).1.1 (hv.2.2 c1).1.2 dX11_puts_26 ?_
    refine wq_iconst (z := 1) (zlit rfl) dX11_puts_27 ?_
    refine wq_icmp_ne 43 rfl dX11_puts_28 (fun c2 => ?_) (fun c2 => ?_)
    · refine wq_aload_n 0 rfl rfl dX11_puts_43 ?_
      refine wq_getR fk_X11_40 tT_343 (fun _ _ _ => rfl) (sh_11_23 hS) (by decide) dX11_puts_44 ?_
      refine wq_iload_n 1 rfl rfl dX11_puts_47 ?_
      refine wq_iald tT_354 ((hv.2.2 c1).2.1 c2).1.1 ((hv.2.2 c1).2.1 c2).1.2 dX11_puts_48 ?_
      refine wq_aload_n 0 rfl rfl dX11_puts_49 ?_
      refine wq_getR fk_X11_43 tT_343 (fun _ _ _ => rfl) (sh_11_24 hS) (by decide) dX11_puts_50 ?_
      refine wq_iload_n 1 rfl rfl dX11_puts_53 ?_
      refine wq_iald tT_355 ((hv.2.2 c1).2.1 c2).2.1.1 ((hv.2.2 c1).2.1 c2).2.1.2 dX11_puts_54 ?_
      refine wq_iadd ((hv.2.2 c1).2.1 c2).2.2.1 dX11_puts_55 ?_
      refine wq_iconst (z := 1) (zlit rfl) dX11_puts_56 ?_
      refine wq_isub ((hv.2.2 c1).2.1 c2).2.2.2.1 dX11_puts_57 ?_
      refine wq_iload 4 rfl dX11_puts_58 ?_
      refine wq_isub ((hv.2.2 c1).2.1 c2).2.2.2.2.1 dX11_puts_60 ?_
      refine wq_lload 3 rfl dX11_puts_61 ?_
      refine wq_ldc2_w (z := 255) (zlitL rfl) kc_X11_293 dX11_puts_63 ?_
      refine wq_land dX11_puts_66 ?_
      refine wq_l2i dX11_puts_67 ?_
      refine wq_iast tT_344 ((hv.2.2 c1).2.1 c2).2.2.2.2.2.1.1 ((hv.2.2 c1).2.1 c2).2.2.2.2.2.1.2 dX11_puts_68 ?_
      refine wq_toph (fun h3 e4 => ?_)
      have sh3 : zSh h3 := zSh_of e4 hS
      refine wq_lload 3 rfl dX11_puts_69 ?_
      refine wq_bipush (z := 8) (zlit rfl) rfl dX11_puts_71 ?_
      refine wq_lshr dX11_puts_73 ?_
      refine wq_topL (fun x5 e6 => ?_)
      refine wq_lstore (ls' := [(0, vR 343), (1, vI y1), (2, vL y2), (4, vL x5), (6, vI y6)]) (by decide) rfl dX11_puts_74 ?_
      refine z_nm (y6 + 1) (fun x7 e8 => ?_)
      refine wq_iinc (y := x7) (ls' := [(0, vR 343), (1, vI y1), (2, vL y2), (4, vL x5), (6, vI x7)]) 4 rfl e8.symm (by rw [e8]; exact ((((hv.2.2 c1).2.1 c2).2.2.2.2.2.2 h3 e4) x5 e6).1) (by decide) rfl dX11_puts_76 ?_
      refine wq_goto 6 rfl dX11_puts_79 ?_
      exact wq_pick [0, 1, 2, 3, 4] rfl (hI_6 y1 y2 x5 x7 h3 ((((((hv.2.2 c1).2.1 c2).2.2.2.2.2.2 h3 e4) x5 e6).2 x7 e8) sh3))
    · refine wq_aload_n 0 rfl rfl dX11_puts_31 ?_
      refine wq_getR fk_X11_40 tT_343 (fun _ _ _ => rfl) (sh_11_23 hS) (by decide) dX11_puts_32 ?_
      refine wq_iload_n 1 rfl rfl dX11_puts_35 ?_
      refine wq_iald tT_354 ((hv.2.2 c1).2.2 c2).1.1 ((hv.2.2 c1).2.2 c2).1.2 dX11_puts_36 ?_
      refine wq_iload 4 rfl dX11_puts_37 ?_
      refine wq_iadd ((hv.2.2 c1).2.2 c2).2.1 dX11_puts_39 ?_
      refine wq_goto 61 rfl dX11_puts_40 ?_
      refine wq_lload 3 rfl dX11_puts_61 ?_
      refine wq_ldc2_w (z := 255) (zlitL rfl) kc_X11_293 dX11_puts_63 ?_
      refine wq_land dX11_puts_66 ?_
      refine wq_l2i dX11_puts_67 ?_
      refine wq_iast tT_344 ((hv.2.2 c1).2.2 c2).2.2.1.1 ((hv.2.2 c1).2.2 c2).2.2.1.2 dX11_puts_68 ?_
      refine wq_toph (fun h9 e10 => ?_)
      have sh9 : zSh h9 := zSh_of e10 hS
      refine wq_lload 3 rfl dX11_puts_69 ?_
      refine wq_bipush (z := 8) (zlit rfl) rfl dX11_puts_71 ?_
      refine wq_lshr dX11_puts_73 ?_
      refine wq_topL (fun x11 e12 => ?_)
      refine wq_lstore (ls' := [(0, vR 343), (1, vI y1), (2, vL y2), (4, vL x11), (6, vI y6)]) (by decide) rfl dX11_puts_74 ?_
      refine z_nm (y6 + 1) (fun x13 e14 => ?_)
      refine wq_iinc (y := x13) (ls' := [(0, vR 343), (1, vI y1), (2, vL y2), (4, vL x11), (6, vI x13)]) 4 rfl e14.symm (by rw [e14]; exact ((((hv.2.2 c1).2.2 c2).2.2.2 h9 e10) x11 e12).1) (by decide) rfl dX11_puts_76 ?_
      refine wq_goto 6 rfl dX11_puts_79 ?_
      exact wq_pick [0, 1, 2, 3, 4] rfl (hI_6 y1 y2 x11 x13 h9 ((((((hv.2.2 c1).2.2 c2).2.2.2 h9 e10) x11 e12).2 x13 e14) sh9))
theorem dX11_rounds_0 : decode cX11_rounds 0 = .ok (.iconst 0, 1) := by decide +kernel
theorem dX11_rounds_1 : decode cX11_rounds 1 = .ok (.istore_n 1, 1) := by decide +kernel
theorem dX11_rounds_2 : decode cX11_rounds 2 = .ok (.iconst 0, 1) := by decide +kernel
theorem dX11_rounds_3 : decode cX11_rounds 3 = .ok (.istore_n 2, 1) := by decide +kernel
theorem dX11_rounds_4 : decode cX11_rounds 4 = .ok (.iload_n 2, 1) := by decide +kernel
theorem dX11_rounds_5 : decode cX11_rounds 5 = .ok (.iconst 4, 1) := by decide +kernel
theorem dX11_rounds_6 : decode cX11_rounds 6 = .ok (.if_icmp .ge 59, 3) := by decide +kernel
theorem dX11_rounds_9 : decode cX11_rounds 9 = .ok (.aload_n 0, 1) := by decide +kernel
theorem dX11_rounds_10 : decode cX11_rounds 10 = .ok (.iload_n 2, 1) := by decide +kernel
theorem dX11_rounds_11 : decode cX11_rounds 11 = .ok (.invokevirtual 204, 3) := by decide +kernel
theorem dX11_rounds_14 : decode cX11_rounds 14 = .ok (.ifCond .eq 45, 3) := by decide +kernel
theorem dX11_rounds_17 : decode cX11_rounds 17 = .ok (.aload_n 0, 1) := by decide +kernel
theorem dX11_rounds_18 : decode cX11_rounds 18 = .ok (.iload_n 2, 1) := by decide +kernel
theorem dX11_rounds_19 : decode cX11_rounds 19 = .ok (.invokevirtual 295, 3) := by decide +kernel
theorem dX11_rounds_22 : decode cX11_rounds 22 = .ok (.iconst 0, 1) := by decide +kernel
theorem dX11_rounds_23 : decode cX11_rounds 23 = .ok (.istore_n 3, 1) := by decide +kernel
theorem dX11_rounds_24 : decode cX11_rounds 24 = .ok (.iload_n 3, 1) := by decide +kernel
theorem dX11_rounds_25 : decode cX11_rounds 25 = .ok (.aload_n 0, 1) := by decide +kernel
theorem dX11_rounds_26 : decode cX11_rounds 26 = .ok (.getfield 235, 3) := by decide +kernel
theorem dX11_rounds_29 : decode cX11_rounds 29 = .ok (.if_icmp .ge 30, 3) := by decide +kernel
theorem dX11_rounds_32 : decode cX11_rounds 32 = .ok (.aload_n 0, 1) := by decide +kernel
theorem dX11_rounds_33 : decode cX11_rounds 33 = .ok (.iload_n 3, 1) := by decide +kernel
theorem dX11_rounds_34 : decode cX11_rounds 34 = .ok (.invokevirtual 290, 3) := by decide +kernel
theorem dX11_rounds_37 : decode cX11_rounds 37 = .ok (.ifCond .eq 16, 3) := by decide +kernel
theorem dX11_rounds_40 : decode cX11_rounds 40 = .ok (.aload_n 0, 1) := by decide +kernel
theorem dX11_rounds_41 : decode cX11_rounds 41 = .ok (.iload_n 3, 1) := by decide +kernel
theorem dX11_rounds_42 : decode cX11_rounds 42 = .ok (.aload_n 0, 1) := by decide +kernel
theorem dX11_rounds_43 : decode cX11_rounds 43 = .ok (.iload_n 3, 1) := by decide +kernel
theorem dX11_rounds_44 : decode cX11_rounds 44 = .ok (.invokevirtual 287, 3) := by decide +kernel
theorem dX11_rounds_47 : decode cX11_rounds 47 = .ok (.i2l, 1) := by decide +kernel
theorem dX11_rounds_48 : decode cX11_rounds 48 = .ok (.invokevirtual 298, 3) := by decide +kernel
theorem dX11_rounds_51 : decode cX11_rounds 51 = .ok (.iconst 1, 1) := by decide +kernel
theorem dX11_rounds_52 : decode cX11_rounds 52 = .ok (.istore_n 1, 1) := by decide +kernel
theorem dX11_rounds_53 : decode cX11_rounds 53 = .ok (.iinc 3 1, 3) := by decide +kernel
theorem dX11_rounds_56 : decode cX11_rounds 56 = .ok (.goto (-32), 3) := by decide +kernel
theorem dX11_rounds_59 : decode cX11_rounds 59 = .ok (.iinc 2 1, 3) := by decide +kernel
theorem dX11_rounds_62 : decode cX11_rounds 62 = .ok (.goto (-58), 3) := by decide +kernel
theorem dX11_rounds_65 : decode cX11_rounds 65 = .ok (.iload_n 1, 1) := by decide +kernel
theorem dX11_rounds_66 : decode cX11_rounds 66 = .ok (.ireturn, 1) := by decide +kernel
theorem vc_X11_rounds_0 {G : zG} {d : Nat} {Q : Option zV → zHp → Prop}  (h : zHp) (hS : zSh h) (hd : 5 ≤ d) (I_4 : Int → Int → zHp → Prop) (hI_4 : ∀ (y1 : Int) (y2 : Int) (h' : zHp), I_4 y1 y2 h' → wpN G d M_X11_rounds 4 [(0, vR 343), (1, vI y1), (2, vI y2)] [] h' Q) 
    (hv : (zSh h → I_4 0 0 h)) : wpN G d M_X11_rounds 0 [(0, vR 343)] [] h Q := by
  refine wq_iconst (z := 0) (zlit rfl) dX11_rounds_0 ?_
  refine wq_istore_n (ls' := [(0, vR 343), (1, vI 0)]) rfl (by decide) rfl dX11_rounds_1 ?_
  refine wq_iconst (z := 0) (zlit rfl) dX11_rounds_2 ?_
  refine wq_istore_n (ls' := [(0, vR 343), (1, vI 0), (2, vI 0)]) rfl (by decide) rfl dX11_rounds_3 ?_
  exact wq_pick [0, 1, 2] rfl (hI_4 0 0 h (hv hS))
theorem vc_X11_rounds_4 {G : zG} {d : Nat} {Q : Option zV → zHp → Prop} (y1 : Int) (y2 : Int) (h : zHp) (hS : zSh h) (hd : 5 ≤ d) (I_4 : Int → Int → zHp → Prop) (hI_4 : ∀ (y1 : Int) (y2 : Int) (h' : zHp), I_4 y1 y2 h' → wpN G d M_X11_rounds 4 [(0, vR 343), (1, vI y1), (2, vI y2)] [] h' Q) (I_24 : Int → Int → Int → zHp → Prop) (hI_24 : ∀ (y1 : Int) (y2 : Int) (y3 : Int) (h' : zHp), I_24 y1 y2 y3 h' → wpN G d M_X11_rounds 24 [(0, vR 343), (1, vI y1), (2, vI y2), (3, vI y3)] [] h' Q) 
    (hv : ((4 ≤ y2 → ((y1 = 0 ∨ y1 = 1) ∧ Q (some (vI y1)) h)) ∧ (y2 < 4 → (wpN G (d - 1) M_X11_isPresent 0 (zar 0 [vR 343, vI y2]) [] h (qI (fun z2 h3 => zSh h3 ∧ ((z2 = 0 → ((-2147483648 ≤ y2 + 1 ∧ y2 + 1 ≤ 2147483647) ∧ ∀ x7 : Int, x7 = y2 + 1 → (zSh h3 → I_4 y1 x7 h3))) ∧ (z2 ≠ 0 → (wpN G (d - 1) M_X11_laysOut 0 (zar 0 [vR 343, vI y2]) [] h3 (qV (fun h10 => zSh h10 ∧ (zSh h10 → I_24 y1 y2 0 h10)))))))))))) : wpN G d M_X11_rounds 4 [(0, vR 343), (1, vI y1), (2, vI y2)] [] h Q := by
  refine wq_iload_n 2 rfl rfl dX11_rounds_4 ?_
  refine wq_iconst (z := 4) (zlit rfl) dX11_rounds_5 ?_
  refine wq_icmp_ge 65 rfl dX11_rounds_6 (fun c1 => ?_) (fun c1 => ?_)
  · refine wq_iload_n 1 rfl rfl dX11_rounds_65 ?_
    exact wp_zret (hv.1 c1).1 rfl dX11_rounds_66 (hv.1 c1).2
  · refine wq_aload_n 0 rfl rfl dX11_rounds_9 ?_
    refine wq_iload_n 2 rfl rfl dX11_rounds_10 ?_
    refine wN_V (As := [vI y2]) vm_X11_isPresent lk_X11_204 tT_343 rfl rfl (Nat.le_of_ble_eq_true rfl) (Nat.le_of_ble_eq_true rfl) (d' := d - 1) (by omega) dX11_rounds_11 (hv.2 c1) (fun v9 h3 q4 => ?_)
    obtain ⟨z2, rfl, hS5, q4⟩ := q4
    refine wq_st (st' := [vI z2]) rfl ?_
    refine wq_if_eq 59 rfl dX11_rounds_14 (fun c6 => ?_) (fun c6 => ?_)
    · refine z_nm (y2 + 1) (fun x7 e8 => ?_)
      refine wq_iinc (y := x7) (ls' := [(0, vR 343), (1, vI y1), (2, vI x7)]) 2 rfl e8.symm (by rw [e8]; exact (q4.1 c6).1) (by decide) rfl dX11_rounds_59 ?_
      refine wq_goto 4 rfl dX11_rounds_62 ?_
      exact wq_pick [0, 1, 2] rfl (hI_4 y1 x7 h3 (((q4.1 c6).2 x7 e8) hS5))
    · refine wq_aload_n 0 rfl rfl dX11_rounds_17 ?_
      refine wq_iload_n 2 rfl rfl dX11_rounds_18 ?_
      refine wN_V (As := [vI y2]) vm_X11_laysOut lk_X11_295 tT_343 rfl rfl (Nat.le_of_ble_eq_true rfl) (Nat.le_of_ble_eq_true rfl) (d' := d - 1) (by omega) dX11_rounds_19 (q4.2 c6) (fun v9 h10 q11 => ?_)
      obtain ⟨rfl, hS12, q11⟩ := q11
      refine wq_st (st' := []) rfl ?_
      refine wq_iconst (z := 0) (zlit rfl) dX11_rounds_22 ?_
      refine wq_istore_n (ls' := [(0, vR 343), (1, vI y1), (2, vI y2), (3, vI 0)]) rfl (by decide) rfl dX11_rounds_23 ?_
      exact wq_pick [0, 1, 2, 3] rfl (hI_24 y1 y2 0 h10 (q11 hS12))
theorem vc_X11_rounds_24 {G : zG} {d : Nat} {Q : Option zV → zHp → Prop} (y1 : Int) (y2 : Int) (y3 : Int) (h : zHp) (hS : zSh h) (hd : 5 ≤ d) (I_4 : Int → Int → zHp → Prop) (hI_4 : ∀ (y1 : Int) (y2 : Int) (h' : zHp), I_4 y1 y2 h' → wpN G d M_X11_rounds 4 [(0, vR 343), (1, vI y1), (2, vI y2)] [] h' Q) (I_24 : Int → Int → Int → zHp → Prop) (hI_24 : ∀ (y1 : Int) (y2 : Int) (y3 : Int) (h' : zHp), I_24 y1 y2 y3 h' → wpN G d M_X11_rounds 24 [(0, vR 343), (1, vI y1), (2, vI y2), (3, vI y3)] [] h' Q) 
    (hv : (((gI h 343 31) ≤ y3 → ((-2147483648 ≤ y2 + 1 ∧ y2 + 1 ≤ 2147483647) ∧ ∀ x2 : Int, x2 = y2 + 1 → (zSh h → I_4 y1 x2 h))) ∧ (y3 < (gI h 343 31) → (wpN G (d - 1) M_X11_isWrong 0 (zar 0 [vR 343, vI y3]) [] h (qI (fun z4 h5 => zSh h5 ∧ ((z4 = 0 → ((-2147483648 ≤ y3 + 1 ∧ y3 + 1 ≤ 2147483647) ∧ ∀ x9 : Int, x9 = y3 + 1 → (zSh h5 → I_24 y1 y2 x9 h5))) ∧ (z4 ≠ 0 → (wpN G (d - 1) M_X11_expectedOf 0 (zar 0 [vR 343, vI y3]) [] h5 (qI (fun z11 h12 => zSh h12 ∧ (wpN G (d - 1) M_X11_puts 0 (zar 0 [vR 343, vI y3, vL z11]) [] h12 (qV (fun h16 => zSh h16 ∧ ((-2147483648 ≤ y3 + 1 ∧ y3 + 1 ≤ 2147483647) ∧ ∀ x19 : Int, x19 = y3 + 1 → (zSh h16 → I_24 1 y2 x19 h16)))))))))))))))) : wpN G d M_X11_rounds 24 [(0, vR 343), (1, vI y1), (2, vI y2), (3, vI y3)] [] h Q := by
  refine wq_iload_n 3 rfl rfl dX11_rounds_24 ?_
  refine wq_aload_n 0 rfl rfl dX11_rounds_25 ?_
  refine wq_getI fk_X11_235 tT_343 (fun _ _ _ => rfl) dX11_rounds_26 ?_
  refine wq_icmp_ge 59 rfl dX11_rounds_29 (fun c1 => ?_) (fun c1 => ?_)
  · refine z_nm (y2 + 1) (fun x2 e3 => ?_)
    refine wq_iinc (y := x2) (ls' := [(0, vR 343), (1, vI y1), (2, vI x2), (3, vI y3)]) 2 rfl e3.symm (by rw [e3]; exact (hv.1 c1).1) (by decide) rfl dX11_rounds_59 ?_
    refine wq_goto 4 rfl dX11_rounds_62 ?_
    exact wq_pick [0, 1, 2] rfl (hI_4 y1 x2 h (((hv.1 c1).2 x2 e3) hS))
  · refine wq_aload_n 0 rfl rfl dX11_rounds_32 ?_
    refine wq_iload_n 3 rfl rfl dX11_rounds_33 ?_
    refine wN_V (As := [vI y3]) vm_X11_isWrong lk_X11_290 tT_343 rfl rfl (Nat.le_of_ble_eq_true rfl) (Nat.le_of_ble_eq_true rfl) (d' := d - 1) (by omega) dX11_rounds_34 (hv.2 c1) (fun v9 h5 q6 => ?_)
    obtain ⟨z4, rfl, hS7, q6⟩ := q6
    refine wq_st (st' := [vI z4]) rfl ?_
    refine wq_if_eq 53 rfl dX11_rounds_37 (fun c8 => ?_) (fun c8 => ?_)
    · refine z_nm (y3 + 1) (fun x9 e10 => ?_)
      refine wq_iinc (y := x9) (ls' := [(0, vR 343), (1, vI y1), (2, vI y2), (3, vI x9)]) 3 rfl e10.symm (by rw [e10]; exact (q6.1 c8).1) (by decide) rfl dX11_rounds_53 ?_
      refine wq_goto 24 rfl dX11_rounds_56 ?_
      exact wq_pick [0, 1, 2, 3] rfl (hI_24 y1 y2 x9 h5 (((q6.1 c8).2 x9 e10) hS7))
    · refine wq_aload_n 0 rfl rfl dX11_rounds_40 ?_
      refine wq_iload_n 3 rfl rfl dX11_rounds_41 ?_
      refine wq_aload_n 0 rfl rfl dX11_rounds_42 ?_
      refine wq_iload_n 3 rfl rfl dX11_rounds_43 ?_
      refine wN_V (As := [vI y3]) vm_X11_expectedOf lk_X11_287 tT_343 rfl rfl (Nat.le_of_ble_eq_true rfl) (Nat.le_of_ble_eq_true rfl) (d' := d - 1) (by omega) dX11_rounds_44 (q6.2 c8) (fun v9 h12 q13 => ?_)
      obtain ⟨z11, rfl, hS14, q13⟩ := q13
      refine wq_st (st' := [vI z11, vI y3, vR 343]) rfl ?_
      refine wq_i2l dX11_rounds_47 ?_
      refine wN_V (As := [vI y3, vL z11]) vm_X11_puts lk_X11_298 tT_343 rfl rfl (Nat.le_of_ble_eq_true rfl) (Nat.le_of_ble_eq_true rfl) (d' := d - 1) (by omega) dX11_rounds_48 q13 (fun v9 h16 q17 => ?_)
      obtain ⟨rfl, hS18, q17⟩ := q17
      refine wq_st (st' := []) rfl ?_
      refine wq_iconst (z := 1) (zlit rfl) dX11_rounds_51 ?_
      refine wq_istore_n (ls' := [(0, vR 343), (1, vI 1), (2, vI y2), (3, vI y3)]) rfl (by decide) rfl dX11_rounds_52 ?_
      refine z_nm (y3 + 1) (fun x19 e20 => ?_)
      refine wq_iinc (y := x19) (ls' := [(0, vR 343), (1, vI 1), (2, vI y2), (3, vI x19)]) 3 rfl e20.symm (by rw [e20]; exact q17.1) (by decide) rfl dX11_rounds_53 ?_
      refine wq_goto 24 rfl dX11_rounds_56 ?_
      exact wq_pick [0, 1, 2, 3] rfl (hI_24 1 y2 x19 h16 ((q17.2 x19 e20) hS18))
theorem dX11_updates_0 : decode cX11_updates 0 = .ok (.iconst 0, 1) := by decide +kernel
theorem dX11_updates_1 : decode cX11_updates 1 = .ok (.istore_n 1, 1) := by decide +kernel
theorem dX11_updates_2 : decode cX11_updates 2 = .ok (.iload_n 1, 1) := by decide +kernel
theorem dX11_updates_3 : decode cX11_updates 3 = .ok (.bipush 8, 2) := by decide +kernel
theorem dX11_updates_5 : decode cX11_updates 5 = .ok (.if_icmp .ge 18, 3) := by decide +kernel
theorem dX11_updates_8 : decode cX11_updates 8 = .ok (.aload_n 0, 1) := by decide +kernel
theorem dX11_updates_9 : decode cX11_updates 9 = .ok (.invokevirtual 302, 3) := by decide +kernel
theorem dX11_updates_12 : decode cX11_updates 12 = .ok (.ifCond .ne 5, 3) := by decide +kernel
theorem dX11_updates_15 : decode cX11_updates 15 = .ok (.iload_n 1, 1) := by decide +kernel
theorem dX11_updates_16 : decode cX11_updates 16 = .ok (.ireturn, 1) := by decide +kernel
theorem dX11_updates_17 : decode cX11_updates 17 = .ok (.iinc 1 1, 3) := by decide +kernel
theorem dX11_updates_20 : decode cX11_updates 20 = .ok (.goto (-18), 3) := by decide +kernel
theorem dX11_updates_23 : decode cX11_updates 23 = .ok (.iconst (-1), 1) := by decide +kernel
theorem dX11_updates_24 : decode cX11_updates 24 = .ok (.ireturn, 1) := by decide +kernel
theorem vc_X11_updates_0 {G : zG} {d : Nat} {Q : Option zV → zHp → Prop}  (h : zHp) (hS : zSh h) (hd : 6 ≤ d) (I_2 : Int → zHp → Prop) (hI_2 : ∀ (y1 : Int) (h' : zHp), I_2 y1 h' → wpN G d M_X11_updates 2 [(0, vR 343), (1, vI y1)] [] h' Q) 
    (hv : (zSh h → I_2 0 h)) : wpN G d M_X11_updates 0 [(0, vR 343)] [] h Q := by
  refine wq_iconst (z := 0) (zlit rfl) dX11_updates_0 ?_
  refine wq_istore_n (ls' := [(0, vR 343), (1, vI 0)]) rfl (by decide) rfl dX11_updates_1 ?_
  exact wq_pick [0, 1] rfl (hI_2 0 h (hv hS))
theorem vc_X11_updates_2 {G : zG} {d : Nat} {Q : Option zV → zHp → Prop} (y1 : Int) (h : zHp) (hS : zSh h) (hd : 6 ≤ d) (I_2 : Int → zHp → Prop) (hI_2 : ∀ (y1 : Int) (h' : zHp), I_2 y1 h' → wpN G d M_X11_updates 2 [(0, vR 343), (1, vI y1)] [] h' Q) 
    (hv : ((8 ≤ y1 → Q (some (vI (-1))) h) ∧ (y1 < 8 → (wpN G (d - 1) M_X11_rounds 0 (zar 0 [vR 343]) [] h (qI (fun z2 h3 => zSh h3 ∧ ((z2 ≠ 0 → ((-2147483648 ≤ y1 + 1 ∧ y1 + 1 ≤ 2147483647) ∧ ∀ x7 : Int, x7 = y1 + 1 → (zSh h3 → I_2 x7 h3))) ∧ (z2 = 0 → Q (some (vI y1)) h3)))))))) : wpN G d M_X11_updates 2 [(0, vR 343), (1, vI y1)] [] h Q := by
  refine wq_iload_n 1 rfl rfl dX11_updates_2 ?_
  refine wq_bipush (z := 8) (zlit rfl) rfl dX11_updates_3 ?_
  refine wq_icmp_ge 23 rfl dX11_updates_5 (fun c1 => ?_) (fun c1 => ?_)
  · refine wq_iconst (z := -1) (zlit rfl) dX11_updates_23 ?_
    exact wp_iret rfl dX11_updates_24 (hv.1 c1)
  · refine wq_aload_n 0 rfl rfl dX11_updates_8 ?_
    refine wN_V (As := []) vm_X11_rounds lk_X11_302 tT_343 rfl rfl (Nat.le_of_ble_eq_true rfl) (Nat.le_of_ble_eq_true rfl) (d' := d - 1) (by omega) dX11_updates_9 (hv.2 c1) (fun v9 h3 q4 => ?_)
    obtain ⟨z2, rfl, hS5, q4⟩ := q4
    refine wq_st (st' := [vI z2]) rfl ?_
    refine wq_if_ne 17 rfl dX11_updates_12 (fun c6 => ?_) (fun c6 => ?_)
    · refine z_nm (y1 + 1) (fun x7 e8 => ?_)
      refine wq_iinc (y := x7) (ls' := [(0, vR 343), (1, vI x7)]) 1 rfl e8.symm (by rw [e8]; exact (q4.1 c6).1) (by decide) rfl dX11_updates_17 ?_
      refine wq_goto 2 rfl dX11_updates_20 ?_
      exact wq_pick [0, 1] rfl (hI_2 x7 h3 (((q4.1 c6).2 x7 e8) hS5))
    · refine wq_iload_n 1 rfl rfl dX11_updates_15 ?_
      exact wp_iret rfl dX11_updates_16 (q4.2 c6)
theorem dX11_copies_0 : decode cX11_copies 0 = .ok (.iconst 0, 1) := by decide +kernel
theorem dX11_copies_1 : decode cX11_copies 1 = .ok (.istore 4, 2) := by decide +kernel
theorem dX11_copies_3 : decode cX11_copies 3 = .ok (.iload 4, 2) := by decide +kernel
theorem dX11_copies_5 : decode cX11_copies 5 = .ok (.sipush 213, 3) := by decide +kernel
theorem dX11_copies_8 : decode cX11_copies 8 = .ok (.if_icmp .ge 21, 3) := by decide +kernel
theorem dX11_copies_11 : decode cX11_copies 11 = .ok (.aload_n 2, 1) := by decide +kernel
theorem dX11_copies_12 : decode cX11_copies 12 = .ok (.iload_n 3, 1) := by decide +kernel
theorem dX11_copies_13 : decode cX11_copies 13 = .ok (.iload 4, 2) := by decide +kernel
theorem dX11_copies_15 : decode cX11_copies 15 = .ok (.iadd, 1) := by decide +kernel
theorem dX11_copies_16 : decode cX11_copies 16 = .ok (.aload_n 0, 1) := by decide +kernel
theorem dX11_copies_17 : decode cX11_copies 17 = .ok (.iload_n 1, 1) := by decide +kernel
theorem dX11_copies_18 : decode cX11_copies 18 = .ok (.iload 4, 2) := by decide +kernel
theorem dX11_copies_20 : decode cX11_copies 20 = .ok (.iadd, 1) := by decide +kernel
theorem dX11_copies_21 : decode cX11_copies 21 = .ok (.iaload, 1) := by decide +kernel
theorem dX11_copies_22 : decode cX11_copies 22 = .ok (.iastore, 1) := by decide +kernel
theorem dX11_copies_23 : decode cX11_copies 23 = .ok (.iinc 4 1, 3) := by decide +kernel
theorem dX11_copies_26 : decode cX11_copies 26 = .ok (.goto (-23), 3) := by decide +kernel
theorem dX11_copies_29 : decode cX11_copies 29 = .ok (.return_, 1) := by decide +kernel
theorem vc_X11_copies_0 {G : zG} {d : Nat} {Q : Option zV → zHp → Prop} (p1 : Nat) (hT_p1 : zT 369 p1 = (0, (zlen p1))) (p2 : Int) (p3 : Nat) (hT_p3 : zT 369 p3 = (0, (zlen p3))) (p4 : Int) (h : zHp) (hS : zSh h) (hd : 0 ≤ d) (I_3 : Nat → Int → Nat → Int → Int → zHp → Prop) (hI_3 : ∀ (y0 : Nat) (y1 : Int) (y2 : Nat) (y3 : Int) (y4 : Int) (h' : zHp), I_3 y0 y1 y2 y3 y4 h' → wpN G d M_X11_copies 3 [(0, vR y0), (1, vI y1), (2, vR y2), (3, vI y3), (4, vI y4)] [] h' Q) 
    (hv : (zSh h → I_3 p1 p2 p3 p4 0 h)) : wpN G d M_X11_copies 0 [(0, vR p1), (1, vI p2), (2, vR p3), (3, vI p4)] [] h Q := by
  refine wq_iconst (z := 0) (zlit rfl) dX11_copies_0 ?_
  refine wq_istore (ls' := [(0, vR p1), (1, vI p2), (2, vR p3), (3, vI p4), (4, vI 0)]) (by decide) rfl dX11_copies_1 ?_
  exact wq_pick [0, 1, 2, 3, 4] rfl (hI_3 p1 p2 p3 p4 0 h (hv hS))
theorem vc_X11_copies_3 {G : zG} {d : Nat} {Q : Option zV → zHp → Prop} (y0 : Nat) (hT_y0 : zT 369 y0 = (0, (zlen y0))) (y1 : Int) (y2 : Nat) (hT_y2 : zT 369 y2 = (0, (zlen y2))) (y3 : Int) (y4 : Int) (h : zHp) (hS : zSh h) (hd : 0 ≤ d) (I_3 : Nat → Int → Nat → Int → Int → zHp → Prop) (hI_3 : ∀ (y0 : Nat) (y1 : Int) (y2 : Nat) (y3 : Int) (y4 : Int) (h' : zHp), I_3 y0 y1 y2 y3 y4 h' → wpN G d M_X11_copies 3 [(0, vR y0), (1, vI y1), (2, vR y2), (3, vI y3), (4, vI y4)] [] h' Q) 
    (hv : ((213 ≤ y4 → Q none h) ∧ (y4 < 213 → ((-2147483648 ≤ y3 + y4 ∧ y3 + y4 ≤ 2147483647) ∧ ((-2147483648 ≤ y1 + y4 ∧ y1 + y4 ≤ 2147483647) ∧ (((0 : Int) ≤ (y1 + y4) ∧ (y1 + y4) < (((zlen y0) : Nat) : Int)) ∧ (((0 : Int) ≤ (y3 + y4) ∧ (y3 + y4) < (((zlen y2) : Nat) : Int)) ∧ (∀ h2 : zHp, h2 = sI h y2 (y3 + y4).toNat (gI h y0 (y1 + y4).toNat) → ((-2147483648 ≤ y4 + 1 ∧ y4 + 1 ≤ 2147483647) ∧ ∀ x4 : Int, x4 = y4 + 1 → (zSh h2 → I_3 y0 y1 y2 y3 x4 h2)))))))))) : wpN G d M_X11_copies 3 [(0, vR y0), (1, vI y1), (2, vR y2), (3, vI y3), (4, vI y4)] [] h Q := by
  refine wq_iload 4 rfl dX11_copies_3 ?_
  refine wq_sipush (z := 213) (zlit rfl) rfl dX11_copies_5 ?_
  refine wq_icmp_ge 29 rfl dX11_copies_8 (fun c1 => ?_) (fun c1 => ?_)
  · exact wp_vret rfl dX11_copies_29 (hv.1 c1)
  · refine wq_aload_n 2 rfl rfl dX11_copies_11 ?_
    refine wq_iload_n 3 rfl rfl dX11_copies_12 ?_
    refine wq_iload 4 rfl dX11_copies_13 ?_
    refine wq_iadd (hv.2 c1).1 dX11_copies_15 ?_
    refine wq_aload_n 0 rfl rfl dX11_copies_16 ?_
    refine wq_iload_n 1 rfl rfl dX11_copies_17 ?_
    refine wq_iload 4 rfl dX11_copies_18 ?_
    refine wq_iadd (hv.2 c1).2.1 dX11_copies_20 ?_
    refine wq_iald hT_y0 (hv.2 c1).2.2.1.1 (hv.2 c1).2.2.1.2 dX11_copies_21 ?_
    refine wq_iast hT_y2 (hv.2 c1).2.2.2.1.1 (hv.2 c1).2.2.2.1.2 dX11_copies_22 ?_
    refine wq_toph (fun h2 e3 => ?_)
    have sh2 : zSh h2 := zSh_of e3 hS
    refine z_nm (y4 + 1) (fun x4 e5 => ?_)
    refine wq_iinc (y := x4) (ls' := [(0, vR y0), (1, vI y1), (2, vR y2), (3, vI y3), (4, vI x4)]) 4 rfl e5.symm (by rw [e5]; exact ((hv.2 c1).2.2.2.2 h2 e3).1) (by decide) rfl dX11_copies_23 ?_
    refine wq_goto 3 rfl dX11_copies_26 ?_
    exact wq_pick [0, 1, 2, 3, 4] rfl (hI_3 y0 y1 y2 y3 x4 h2 ((((hv.2 c1).2.2.2.2 h2 e3).2 x4 e5) sh2))
theorem dX11_keeps_0 : decode cX11_keeps 0 = .ok (.aload_n 0, 1) := by decide +kernel
theorem dX11_keeps_1 : decode cX11_keeps 1 = .ok (.getfield 7, 3) := by decide +kernel
theorem dX11_keeps_4 : decode cX11_keeps 4 = .ok (.iconst 0, 1) := by decide +kernel
theorem dX11_keeps_5 : decode cX11_keeps 5 = .ok (.aload_n 0, 1) := by decide +kernel
theorem dX11_keeps_6 : decode cX11_keeps 6 = .ok (.getfield 19, 3) := by decide +kernel
theorem dX11_keeps_9 : decode cX11_keeps 9 = .ok (.iconst 0, 1) := by decide +kernel
theorem dX11_keeps_10 : decode cX11_keeps 10 = .ok (.invokestatic 306, 3) := by decide +kernel
theorem dX11_keeps_13 : decode cX11_keeps 13 = .ok (.return_, 1) := by decide +kernel
theorem vc_X11_keeps_0 {G : zG} {d : Nat} {Q : Option zV → zHp → Prop}  (h : zHp) (hS : zSh h) (hd : 1 ≤ d)  
    (hv : (wpN G (d - 1) M_X11_copies 0 (zar 0 [vR 344, vI 0, vR 347, vI 0]) [] h (qV (fun h2 => zSh h2 ∧ Q none h2)))) : wpN G d M_X11_keeps 0 [(0, vR 343)] [] h Q := by
  refine wq_aload_n 0 rfl rfl dX11_keeps_0 ?_
  refine wq_getR fk_X11_7 tT_343 (fun _ _ _ => rfl) (sh_11_0 hS) (by decide) dX11_keeps_1 ?_
  refine wq_iconst (z := 0) (zlit rfl) dX11_keeps_4 ?_
  refine wq_aload_n 0 rfl rfl dX11_keeps_5 ?_
  refine wq_getR fk_X11_19 tT_343 (fun _ _ _ => rfl) (sh_11_5 hS) (by decide) dX11_keeps_6 ?_
  refine wq_iconst (z := 0) (zlit rfl) dX11_keeps_9 ?_
  refine wN_S (As := [vR 344, vI 0, vR 347, vI 0]) md_X11_copies ms_X11_copies lk_X11_306 rfl rfl (Nat.le_of_ble_eq_true rfl) (Nat.le_of_ble_eq_true rfl) (d' := d - 1) (by omega) dX11_keeps_10 hv (fun v9 h2 q3 => ?_)
  obtain ⟨rfl, hS4, q3⟩ := q3
  refine wq_st (st' := []) rfl ?_
  exact wp_vret rfl dX11_keeps_13 q3
theorem dX11_stays_0 : decode cX11_stays 0 = .ok (.iload_n 1, 1) := by decide +kernel
theorem dX11_stays_1 : decode cX11_stays 1 = .ok (.istore_n 2, 1) := by decide +kernel
theorem dX11_stays_2 : decode cX11_stays 2 = .ok (.iload_n 2, 1) := by decide +kernel
theorem dX11_stays_3 : decode cX11_stays 3 = .ok (.ifCond .eq 25, 3) := by decide +kernel
theorem dX11_stays_6 : decode cX11_stays 6 = .ok (.aload_n 0, 1) := by decide +kernel
theorem dX11_stays_7 : decode cX11_stays 7 = .ok (.getfield 310, 3) := by decide +kernel
theorem dX11_stays_10 : decode cX11_stays 10 = .ok (.ifCond .eq 18, 3) := by decide +kernel
theorem dX11_stays_13 : decode cX11_stays 13 = .ok (.aload_n 0, 1) := by decide +kernel
theorem dX11_stays_14 : decode cX11_stays 14 = .ok (.invokevirtual 314, 3) := by decide +kernel
theorem dX11_stays_17 : decode cX11_stays 17 = .ok (.istore_n 3, 1) := by decide +kernel
theorem dX11_stays_18 : decode cX11_stays 18 = .ok (.iload_n 3, 1) := by decide +kernel
theorem dX11_stays_19 : decode cX11_stays 19 = .ok (.ifCond .lt 7, 3) := by decide +kernel
theorem dX11_stays_22 : decode cX11_stays 22 = .ok (.iconst 1, 1) := by decide +kernel
theorem dX11_stays_23 : decode cX11_stays 23 = .ok (.goto 4, 3) := by decide +kernel
theorem dX11_stays_26 : decode cX11_stays 26 = .ok (.iconst 0, 1) := by decide +kernel
theorem dX11_stays_27 : decode cX11_stays 27 = .ok (.istore_n 2, 1) := by decide +kernel
theorem dX11_stays_28 : decode cX11_stays 28 = .ok (.iload_n 2, 1) := by decide +kernel
theorem dX11_stays_29 : decode cX11_stays 29 = .ok (.ifCond .ne 18, 3) := by decide +kernel
theorem dX11_stays_32 : decode cX11_stays 32 = .ok (.aload_n 0, 1) := by decide +kernel
theorem dX11_stays_33 : decode cX11_stays 33 = .ok (.getfield 19, 3) := by decide +kernel
theorem dX11_stays_36 : decode cX11_stays 36 = .ok (.iconst 0, 1) := by decide +kernel
theorem dX11_stays_37 : decode cX11_stays 37 = .ok (.aload_n 0, 1) := by decide +kernel
theorem dX11_stays_38 : decode cX11_stays 38 = .ok (.getfield 7, 3) := by decide +kernel
theorem dX11_stays_41 : decode cX11_stays 41 = .ok (.iconst 0, 1) := by decide +kernel
theorem dX11_stays_42 : decode cX11_stays 42 = .ok (.invokestatic 306, 3) := by decide +kernel
theorem dX11_stays_45 : decode cX11_stays 45 = .ok (.iconst 0, 1) := by decide +kernel
theorem dX11_stays_46 : decode cX11_stays 46 = .ok (.ireturn, 1) := by decide +kernel
theorem dX11_stays_47 : decode cX11_stays 47 = .ok (.aload_n 0, 1) := by decide +kernel
theorem dX11_stays_48 : decode cX11_stays 48 = .ok (.getfield 317, 3) := by decide +kernel
theorem dX11_stays_51 : decode cX11_stays 51 = .ok (.bipush 12, 2) := by decide +kernel
theorem dX11_stays_53 : decode cX11_stays 53 = .ok (.if_icmp .ne 44, 3) := by decide +kernel
theorem dX11_stays_56 : decode cX11_stays 56 = .ok (.iconst 0, 1) := by decide +kernel
theorem dX11_stays_57 : decode cX11_stays 57 = .ok (.istore_n 3, 1) := by decide +kernel
theorem dX11_stays_58 : decode cX11_stays 58 = .ok (.iload_n 3, 1) := by decide +kernel
theorem dX11_stays_59 : decode cX11_stays 59 = .ok (.sipush 2343, 3) := by decide +kernel
theorem dX11_stays_62 : decode cX11_stays 62 = .ok (.if_icmp .ge 25, 3) := by decide +kernel
theorem dX11_stays_65 : decode cX11_stays 65 = .ok (.aload_n 0, 1) := by decide +kernel
theorem dX11_stays_66 : decode cX11_stays 66 = .ok (.getfield 13, 3) := by decide +kernel
theorem dX11_stays_69 : decode cX11_stays 69 = .ok (.iload_n 3, 1) := by decide +kernel
theorem dX11_stays_70 : decode cX11_stays 70 = .ok (.aload_n 0, 1) := by decide +kernel
theorem dX11_stays_71 : decode cX11_stays 71 = .ok (.getfield 13, 3) := by decide +kernel
theorem dX11_stays_74 : decode cX11_stays 74 = .ok (.iload_n 3, 1) := by decide +kernel
theorem dX11_stays_75 : decode cX11_stays 75 = .ok (.sipush 213, 3) := by decide +kernel
theorem dX11_stays_78 : decode cX11_stays 78 = .ok (.iadd, 1) := by decide +kernel
theorem dX11_stays_79 : decode cX11_stays 79 = .ok (.iaload, 1) := by decide +kernel
theorem dX11_stays_80 : decode cX11_stays 80 = .ok (.iastore, 1) := by decide +kernel
theorem dX11_stays_81 : decode cX11_stays 81 = .ok (.iinc 3 1, 3) := by decide +kernel
theorem dX11_stays_84 : decode cX11_stays 84 = .ok (.goto (-26), 3) := by decide +kernel
theorem dX11_stays_87 : decode cX11_stays 87 = .ok (.aload_n 0, 1) := by decide +kernel
theorem dX11_stays_88 : decode cX11_stays 88 = .ok (.dup, 1) := by decide +kernel
theorem dX11_stays_89 : decode cX11_stays 89 = .ok (.getfield 317, 3) := by decide +kernel
theorem dX11_stays_92 : decode cX11_stays 92 = .ok (.iconst 1, 1) := by decide +kernel
theorem dX11_stays_93 : decode cX11_stays 93 = .ok (.isub, 1) := by decide +kernel
theorem dX11_stays_94 : decode cX11_stays 94 = .ok (.putfield 317, 3) := by decide +kernel
theorem dX11_stays_97 : decode cX11_stays 97 = .ok (.aload_n 0, 1) := by decide +kernel
theorem dX11_stays_98 : decode cX11_stays 98 = .ok (.getfield 19, 3) := by decide +kernel
theorem dX11_stays_101 : decode cX11_stays 101 = .ok (.iconst 0, 1) := by decide +kernel
theorem dX11_stays_102 : decode cX11_stays 102 = .ok (.aload_n 0, 1) := by decide +kernel
theorem dX11_stays_103 : decode cX11_stays 103 = .ok (.getfield 13, 3) := by decide +kernel
theorem dX11_stays_106 : decode cX11_stays 106 = .ok (.sipush 213, 3) := by decide +kernel
theorem dX11_stays_109 : decode cX11_stays 109 = .ok (.aload_n 0, 1) := by decide +kernel
theorem dX11_stays_110 : decode cX11_stays 110 = .ok (.getfield 317, 3) := by decide +kernel
theorem dX11_stays_113 : decode cX11_stays 113 = .ok (.imul, 1) := by decide +kernel
theorem dX11_stays_114 : decode cX11_stays 114 = .ok (.invokestatic 306, 3) := by decide +kernel
theorem dX11_stays_117 : decode cX11_stays 117 = .ok (.aload_n 0, 1) := by decide +kernel
theorem dX11_stays_118 : decode cX11_stays 118 = .ok (.dup, 1) := by decide +kernel
theorem dX11_stays_119 : decode cX11_stays 119 = .ok (.getfield 317, 3) := by decide +kernel
theorem dX11_stays_122 : decode cX11_stays 122 = .ok (.iconst 1, 1) := by decide +kernel
theorem dX11_stays_123 : decode cX11_stays 123 = .ok (.iadd, 1) := by decide +kernel
theorem dX11_stays_124 : decode cX11_stays 124 = .ok (.putfield 317, 3) := by decide +kernel
theorem dX11_stays_127 : decode cX11_stays 127 = .ok (.aload_n 0, 1) := by decide +kernel
theorem dX11_stays_128 : decode cX11_stays 128 = .ok (.iconst 0, 1) := by decide +kernel
theorem dX11_stays_129 : decode cX11_stays 129 = .ok (.putfield 320, 3) := by decide +kernel
theorem dX11_stays_132 : decode cX11_stays 132 = .ok (.iconst 1, 1) := by decide +kernel
theorem dX11_stays_133 : decode cX11_stays 133 = .ok (.ireturn, 1) := by decide +kernel
theorem vc_X11_stays_0 {G : zG} {d : Nat} {Q : Option zV → zHp → Prop} (p1 : Int) (h : zHp) (hS : zSh h) (hd : 7 ≤ d) (I_58 : Int → Int → Int → zHp → Prop) (hI_58 : ∀ (y1 : Int) (y2 : Int) (y3 : Int) (h' : zHp), I_58 y1 y2 y3 h' → wpN G d M_X11_stays 58 [(0, vR 343), (1, vI y1), (2, vI y2), (3, vI y3)] [] h' Q) 
    (hv : ((p1 = 0 → ((p1 ≠ 0 → (((gI h 343 2) ≠ 12 → ((-2147483648 ≤ 213 * (gI h 343 2) ∧ 213 * (gI h 343 2) ≤ 2147483647) ∧ (wpN G (d - 1) M_X11_copies 0 (zar 0 [vR 347, vI 0, vR 345, vI (213 * (gI h 343 2))]) [] h (qV (fun h5 => zSh h5 ∧ ((-2147483648 ≤ (gI h5 343 2) + 1 ∧ (gI h5 343 2) + 1 ≤ 2147483647) ∧ (∀ h8 : zHp, h8 = sI h5 343 2 ((gI h5 343 2) + 1) → (∀ h10 : zHp, h10 = sI h8 343 4 0 → Q (some (vI 1)) h10)))))))) ∧ ((gI h 343 2) = 12 → (zSh h → I_58 p1 p1 0 h)))) ∧ (p1 = 0 → (wpN G (d - 1) M_X11_copies 0 (zar 0 [vR 347, vI 0, vR 344, vI 0]) [] h (qV (fun h13 => zSh h13 ∧ Q (some (vI 0)) h13)))))) ∧ (p1 ≠ 0 → (((gI h 343 6) = 0 → ((p1 ≠ 0 → (((gI h 343 2) ≠ 12 → ((-2147483648 ≤ 213 * (gI h 343 2) ∧ 213 * (gI h 343 2) ≤ 2147483647) ∧ (wpN G (d - 1) M_X11_copies 0 (zar 0 [vR 347, vI 0, vR 345, vI (213 * (gI h 343 2))]) [] h (qV (fun h20 => zSh h20 ∧ ((-2147483648 ≤ (gI h20 343 2) + 1 ∧ (gI h20 343 2) + 1 ≤ 2147483647) ∧ (∀ h23 : zHp, h23 = sI h20 343 2 ((gI h20 343 2) + 1) → (∀ h25 : zHp, h25 = sI h23 343 4 0 → Q (some (vI 1)) h25)))))))) ∧ ((gI h 343 2) = 12 → (zSh h → I_58 p1 p1 0 h)))) ∧ (p1 = 0 → (wpN G (d - 1) M_X11_copies 0 (zar 0 [vR 347, vI 0, vR 344, vI 0]) [] h (qV (fun h28 => zSh h28 ∧ Q (some (vI 0)) h28)))))) ∧ ((gI h 343 6) ≠ 0 → (wpN G (d - 1) M_X11_updates 0 (zar 0 [vR 343]) [] h (qI (fun z31 h32 => zSh h32 ∧ ((z31 < 0 → (wpN G (d - 1) M_X11_copies 0 (zar 0 [vR 347, vI 0, vR 344, vI 0]) [] h32 (qV (fun h38 => zSh h38 ∧ Q (some (vI 0)) h38)))) ∧ (0 ≤ z31 → (((gI h32 343 2) ≠ 12 → ((-2147483648 ≤ 213 * (gI h32 343 2) ∧ 213 * (gI h32 343 2) ≤ 2147483647) ∧ (wpN G (d - 1) M_X11_copies 0 (zar 0 [vR 347, vI 0, vR 345, vI (213 * (gI h32 343 2))]) [] h32 (qV (fun h44 => zSh h44 ∧ ((-2147483648 ≤ (gI h44 343 2) + 1 ∧ (gI h44 343 2) + 1 ≤ 2147483647) ∧ (∀ h47 : zHp, h47 = sI h44 343 2 ((gI h44 343 2) + 1) → (∀ h49 : zHp, h49 = sI h47 343 4 0 → Q (some (vI 1)) h49)))))))) ∧ ((gI h32 343 2) = 12 → (zSh h32 → I_58 p1 1 0 h32))))))))))))) : wpN G d M_X11_stays 0 [(0, vR 343), (1, vI p1)] [] h Q := by
  refine wq_iload_n 1 rfl rfl dX11_stays_0 ?_
  refine wq_istore_n (ls' := [(0, vR 343), (1, vI p1), (2, vI p1)]) rfl (by decide) rfl dX11_stays_1 ?_
  refine wq_iload_n 2 rfl rfl dX11_stays_2 ?_
  refine wq_if_eq 28 rfl dX11_stays_3 (fun c1 => ?_) (fun c1 => ?_)
  · refine wq_iload_n 2 rfl rfl dX11_stays_28 ?_
    refine wq_if_ne 47 rfl dX11_stays_29 (fun c2 => ?_) (fun c2 => ?_)
    · refine wq_aload_n 0 rfl rfl dX11_stays_47 ?_
      refine wq_getI fk_X11_317 tT_343 (fun _ _ _ => rfl) dX11_stays_48 ?_
      refine wq_bipush (z := 12) (zlit rfl) rfl dX11_stays_51 ?_
      refine wq_icmp_ne 97 rfl dX11_stays_53 (fun c3 => ?_) (fun c3 => ?_)
      · refine wq_aload_n 0 rfl rfl dX11_stays_97 ?_
        refine wq_getR fk_X11_19 tT_343 (fun _ _ _ => rfl) (sh_11_5 hS) (by decide) dX11_stays_98 ?_
        refine wq_iconst (z := 0) (zlit rfl) dX11_stays_101 ?_
        refine wq_aload_n 0 rfl rfl dX11_stays_102 ?_
        refine wq_getR fk_X11_13 tT_343 (fun _ _ _ => rfl) (sh_11_1 hS) (by decide) dX11_stays_103 ?_
        refine wq_sipush (z := 213) (zlit rfl) rfl dX11_stays_106 ?_
        refine wq_aload_n 0 rfl rfl dX11_stays_109 ?_
        refine wq_getI fk_X11_317 tT_343 (fun _ _ _ => rfl) dX11_stays_110 ?_
        refine wq_imul (((hv.1 c1).1 c2).1 c3).1 dX11_stays_113 ?_
        refine wN_S (As := [vR 347, vI 0, vR 345, vI (213 * (gI h 343 2))]) md_X11_copies ms_X11_copies lk_X11_306 rfl rfl (Nat.le_of_ble_eq_true rfl) (Nat.le_of_ble_eq_true rfl) (d' := d - 1) (by omega) dX11_stays_114 (((hv.1 c1).1 c2).1 c3).2 (fun v9 h5 q6 => ?_)
        obtain ⟨rfl, hS7, q6⟩ := q6
        refine wq_st (st' := []) rfl ?_
        refine wq_aload_n 0 rfl rfl dX11_stays_117 ?_
        refine wq_dup rfl dX11_stays_118 ?_
        refine wq_getI fk_X11_317 tT_343 (fun _ _ _ => rfl) dX11_stays_119 ?_
        refine wq_iconst (z := 1) (zlit rfl) dX11_stays_122 ?_
        refine wq_iadd q6.1 dX11_stays_123 ?_
        refine wq_putI fk_X11_317 tT_343 rfl rfl dX11_stays_124 ?_
        refine wq_toph (fun h8 e9 => ?_)
        have sh8 : zSh h8 := zSh_of e9 hS7
        refine wq_aload_n 0 rfl rfl dX11_stays_127 ?_
        refine wq_iconst (z := 0) (zlit rfl) dX11_stays_128 ?_
        refine wq_putI fk_X11_320 tT_343 rfl rfl dX11_stays_129 ?_
        refine wq_toph (fun h10 e11 => ?_)
        have sh10 : zSh h10 := zSh_of e11 sh8
        refine wq_iconst (z := 1) (zlit rfl) dX11_stays_132 ?_
        exact wp_zret (Or.inr rfl) rfl dX11_stays_133 ((q6.2 h8 e9) h10 e11)
      · refine wq_iconst (z := 0) (zlit rfl) dX11_stays_56 ?_
        refine wq_istore_n (ls' := [(0, vR 343), (1, vI p1), (2, vI p1), (3, vI 0)]) rfl (by decide) rfl dX11_stays_57 ?_
        exact wq_pick [0, 1, 2, 3] rfl (hI_58 p1 p1 0 h ((((hv.1 c1).1 c2).2 c3) hS))
    · refine wq_aload_n 0 rfl rfl dX11_stays_32 ?_
      refine wq_getR fk_X11_19 tT_343 (fun _ _ _ => rfl) (sh_11_5 hS) (by decide) dX11_stays_33 ?_
      refine wq_iconst (z := 0) (zlit rfl) dX11_stays_36 ?_
      refine wq_aload_n 0 rfl rfl dX11_stays_37 ?_
      refine wq_getR fk_X11_7 tT_343 (fun _ _ _ => rfl) (sh_11_0 hS) (by decide) dX11_stays_38 ?_
      refine wq_iconst (z := 0) (zlit rfl) dX11_stays_41 ?_
      refine wN_S (As := [vR 347, vI 0, vR 344, vI 0]) md_X11_copies ms_X11_copies lk_X11_306 rfl rfl (Nat.le_of_ble_eq_true rfl) (Nat.le_of_ble_eq_true rfl) (d' := d - 1) (by omega) dX11_stays_42 ((hv.1 c1).2 c2) (fun v9 h13 q14 => ?_)
      obtain ⟨rfl, hS15, q14⟩ := q14
      refine wq_st (st' := []) rfl ?_
      refine wq_iconst (z := 0) (zlit rfl) dX11_stays_45 ?_
      exact wp_zret (Or.inl rfl) rfl dX11_stays_46 q14
  · refine wq_aload_n 0 rfl rfl dX11_stays_6 ?_
    refine wq_getI fk_X11_310 tT_343 (fun _ _ _ => rfl) dX11_stays_7 ?_
    refine wq_if_eq 28 rfl dX11_stays_10 (fun c16 => ?_) (fun c16 => ?_)
    · refine wq_iload_n 2 rfl rfl dX11_stays_28 ?_
      refine wq_if_ne 47 rfl dX11_stays_29 (fun c17 => ?_) (fun c17 => ?_)
      · refine wq_aload_n 0 rfl rfl dX11_stays_47 ?_
        refine wq_getI fk_X11_317 tT_343 (fun _ _ _ => rfl) dX11_stays_48 ?_
        refine wq_bipush (z := 12) (zlit rfl) rfl dX11_stays_51 ?_
        refine wq_icmp_ne 97 rfl dX11_stays_53 (fun c18 => ?_) (fun c18 => ?_)
        · refine wq_aload_n 0 rfl rfl dX11_stays_97 ?_
          refine wq_getR fk_X11_19 tT_343 (fun _ _ _ => rfl) (sh_11_5 hS) (by decide) dX11_stays_98 ?_
          refine wq_iconst (z := 0) (zlit rfl) dX11_stays_101 ?_
          refine wq_aload_n 0 rfl rfl dX11_stays_102 ?_
          refine wq_getR fk_X11_13 tT_343 (fun _ _ _ => rfl) (sh_11_1 hS) (by decide) dX11_stays_103 ?_
          refine wq_sipush (z := 213) (zlit rfl) rfl dX11_stays_106 ?_
          refine wq_aload_n 0 rfl rfl dX11_stays_109 ?_
          refine wq_getI fk_X11_317 tT_343 (fun _ _ _ => rfl) dX11_stays_110 ?_
          refine wq_imul ((((hv.2 c1).1 c16).1 c17).1 c18).1 dX11_stays_113 ?_
          refine wN_S (As := [vR 347, vI 0, vR 345, vI (213 * (gI h 343 2))]) md_X11_copies ms_X11_copies lk_X11_306 rfl rfl (Nat.le_of_ble_eq_true rfl) (Nat.le_of_ble_eq_true rfl) (d' := d - 1) (by omega) dX11_stays_114 ((((hv.2 c1).1 c16).1 c17).1 c18).2 (fun v9 h20 q21 => ?_)
          obtain ⟨rfl, hS22, q21⟩ := q21
          refine wq_st (st' := []) rfl ?_
          refine wq_aload_n 0 rfl rfl dX11_stays_117 ?_
          refine wq_dup rfl dX11_stays_118 ?_
          refine wq_getI fk_X11_317 tT_343 (fun _ _ _ => rfl) dX11_stays_119 ?_
          refine wq_iconst (z := 1) (zlit rfl) dX11_stays_122 ?_
          refine wq_iadd q21.1 dX11_stays_123 ?_
          refine wq_putI fk_X11_317 tT_343 rfl rfl dX11_stays_124 ?_
          refine wq_toph (fun h23 e24 => ?_)
          have sh23 : zSh h23 := zSh_of e24 hS22
          refine wq_aload_n 0 rfl rfl dX11_stays_127 ?_
          refine wq_iconst (z := 0) (zlit rfl) dX11_stays_128 ?_
          refine wq_putI fk_X11_320 tT_343 rfl rfl dX11_stays_129 ?_
          refine wq_toph (fun h25 e26 => ?_)
          have sh25 : zSh h25 := zSh_of e26 sh23
          refine wq_iconst (z := 1) (zlit rfl) dX11_stays_132 ?_
          exact wp_zret (Or.inr rfl) rfl dX11_stays_133 ((q21.2 h23 e24) h25 e26)
        · refine wq_iconst (z := 0) (zlit rfl) dX11_stays_56 ?_
          refine wq_istore_n (ls' := [(0, vR 343), (1, vI p1), (2, vI p1), (3, vI 0)]) rfl (by decide) rfl dX11_stays_57 ?_
          exact wq_pick [0, 1, 2, 3] rfl (hI_58 p1 p1 0 h (((((hv.2 c1).1 c16).1 c17).2 c18) hS))
      · refine wq_aload_n 0 rfl rfl dX11_stays_32 ?_
        refine wq_getR fk_X11_19 tT_343 (fun _ _ _ => rfl) (sh_11_5 hS) (by decide) dX11_stays_33 ?_
        refine wq_iconst (z := 0) (zlit rfl) dX11_stays_36 ?_
        refine wq_aload_n 0 rfl rfl dX11_stays_37 ?_
        refine wq_getR fk_X11_7 tT_343 (fun _ _ _ => rfl) (sh_11_0 hS) (by decide) dX11_stays_38 ?_
        refine wq_iconst (z := 0) (zlit rfl) dX11_stays_41 ?_
        refine wN_S (As := [vR 347, vI 0, vR 344, vI 0]) md_X11_copies ms_X11_copies lk_X11_306 rfl rfl (Nat.le_of_ble_eq_true rfl) (Nat.le_of_ble_eq_true rfl) (d' := d - 1) (by omega) dX11_stays_42 (((hv.2 c1).1 c16).2 c17) (fun v9 h28 q29 => ?_)
        obtain ⟨rfl, hS30, q29⟩ := q29
        refine wq_st (st' := []) rfl ?_
        refine wq_iconst (z := 0) (zlit rfl) dX11_stays_45 ?_
        exact wp_zret (Or.inl rfl) rfl dX11_stays_46 q29
    · refine wq_aload_n 0 rfl rfl dX11_stays_13 ?_
      refine wN_V (As := []) vm_X11_updates lk_X11_314 tT_343 rfl rfl (Nat.le_of_ble_eq_true rfl) (Nat.le_of_ble_eq_true rfl) (d' := d - 1) (by omega) dX11_stays_14 ((hv.2 c1).2 c16) (fun v9 h32 q33 => ?_)
      obtain ⟨z31, rfl, hS34, q33⟩ := q33
      refine wq_st (st' := [vI z31]) rfl ?_
      refine wq_istore_n (ls' := [(0, vR 343), (1, vI p1), (2, vI p1), (3, vI z31)]) rfl (by decide) rfl dX11_stays_17 ?_
      refine wq_iload_n 3 rfl rfl dX11_stays_18 ?_
      refine wq_if_lt 26 rfl dX11_stays_19 (fun c35 => ?_) (fun c35 => ?_)
      · refine wq_iconst (z := 0) (zlit rfl) dX11_stays_26 ?_
        refine wq_istore_n (ls' := [(0, vR 343), (1, vI p1), (2, vI 0), (3, vI z31)]) rfl (by decide) rfl dX11_stays_27 ?_
        refine wq_iload_n 2 rfl rfl dX11_stays_28 ?_
        refine wq_if_ne 47 rfl dX11_stays_29 (fun c36 => absurd c36 (by decide)) (fun _ => ?_)
        refine wq_aload_n 0 rfl rfl dX11_stays_32 ?_
        refine wq_getR fk_X11_19 tT_343 (fun _ _ _ => rfl) (sh_11_5 hS34) (by decide) dX11_stays_33 ?_
        refine wq_iconst (z := 0) (zlit rfl) dX11_stays_36 ?_
        refine wq_aload_n 0 rfl rfl dX11_stays_37 ?_
        refine wq_getR fk_X11_7 tT_343 (fun _ _ _ => rfl) (sh_11_0 hS34) (by decide) dX11_stays_38 ?_
        refine wq_iconst (z := 0) (zlit rfl) dX11_stays_41 ?_
        refine wN_S (As := [vR 347, vI 0, vR 344, vI 0]) md_X11_copies ms_X11_copies lk_X11_306 rfl rfl (Nat.le_of_ble_eq_true rfl) (Nat.le_of_ble_eq_true rfl) (d' := d - 1) (by omega) dX11_stays_42 (q33.1 c35) (fun v9 h38 q39 => ?_)
        obtain ⟨rfl, hS40, q39⟩ := q39
        refine wq_st (st' := []) rfl ?_
        refine wq_iconst (z := 0) (zlit rfl) dX11_stays_45 ?_
        exact wp_zret (Or.inl rfl) rfl dX11_stays_46 q39
      · refine wq_iconst (z := 1) (zlit rfl) dX11_stays_22 ?_
        refine wq_goto 27 rfl dX11_stays_23 ?_
        refine wq_istore_n (ls' := [(0, vR 343), (1, vI p1), (2, vI 1), (3, vI z31)]) rfl (by decide) rfl dX11_stays_27 ?_
        refine wq_iload_n 2 rfl rfl dX11_stays_28 ?_
        refine wq_if_ne 47 rfl dX11_stays_29 (fun _ => ?_) (fun c41 => absurd c41 (by decide))
        refine wq_aload_n 0 rfl rfl dX11_stays_47 ?_
        refine wq_getI fk_X11_317 tT_343 (fun _ _ _ => rfl) dX11_stays_48 ?_
        refine wq_bipush (z := 12) (zlit rfl) rfl dX11_stays_51 ?_
        refine wq_icmp_ne 97 rfl dX11_stays_53 (fun c42 => ?_) (fun c42 => ?_)
        · refine wq_aload_n 0 rfl rfl dX11_stays_97 ?_
          refine wq_getR fk_X11_19 tT_343 (fun _ _ _ => rfl) (sh_11_5 hS34) (by decide) dX11_stays_98 ?_
          refine wq_iconst (z := 0) (zlit rfl) dX11_stays_101 ?_
          refine wq_aload_n 0 rfl rfl dX11_stays_102 ?_
          refine wq_getR fk_X11_13 tT_343 (fun _ _ _ => rfl) (sh_11_1 hS34) (by decide) dX11_stays_103 ?_
          refine wq_sipush (z := 213) (zlit rfl) rfl dX11_stays_106 ?_
          refine wq_aload_n 0 rfl rfl dX11_stays_109 ?_
          refine wq_getI fk_X11_317 tT_343 (fun _ _ _ => rfl) dX11_stays_110 ?_
          refine wq_imul ((q33.2 c35).1 c42).1 dX11_stays_113 ?_
          refine wN_S (As := [vR 347, vI 0, vR 345, vI (213 * (gI h32 343 2))]) md_X11_copies ms_X11_copies lk_X11_306 rfl rfl (Nat.le_of_ble_eq_true rfl) (Nat.le_of_ble_eq_true rfl) (d' := d - 1) (by omega) dX11_stays_114 ((q33.2 c35).1 c42).2 (fun v9 h44 q45 => ?_)
          obtain ⟨rfl, hS46, q45⟩ := q45
          refine wq_st (st' := []) rfl ?_
          refine wq_aload_n 0 rfl rfl dX11_stays_117 ?_
          refine wq_dup rfl dX11_stays_118 ?_
          refine wq_getI fk_X11_317 tT_343 (fun _ _ _ => rfl) dX11_stays_119 ?_
          refine wq_iconst (z := 1) (zlit rfl) dX11_stays_122 ?_
          refine wq_iadd q45.1 dX11_stays_123 ?_
          refine wq_putI fk_X11_317 tT_343 rfl rfl dX11_stays_124 ?_
          refine wq_toph (fun h47 e48 => ?_)
          have sh47 : zSh h47 := zSh_of e48 hS46
          refine wq_aload_n 0 rfl rfl dX11_stays_127 ?_
          refine wq_iconst (z := 0) (zlit rfl) dX11_stays_128 ?_
          refine wq_putI fk_X11_320 tT_343 rfl rfl dX11_stays_129 ?_
          refine wq_toph (fun h49 e50 => ?_)
          have sh49 : zSh h49 := zSh_of e50 sh47
          refine wq_iconst (z := 1) (zlit rfl) dX11_stays_132 ?_
          exact wp_zret (Or.inr rfl) rfl dX11_stays_133 ((q45.2 h47 e48) h49 e50)
        · refine wq_iconst (z := 0) (zlit rfl) dX11_stays_56 ?_
          refine wq_istore_n (ls' := [(0, vR 343), (1, vI p1), (2, vI 1), (3, vI 0)]) rfl (by decide) rfl dX11_stays_57 ?_
          exact wq_pick [0, 1, 2, 3] rfl (hI_58 p1 1 0 h32 (((q33.2 c35).2 c42) hS34))
theorem vc_X11_stays_58 {G : zG} {d : Nat} {Q : Option zV → zHp → Prop} (y1 : Int) (y2 : Int) (y3 : Int) (h : zHp) (hS : zSh h) (hd : 7 ≤ d) (I_58 : Int → Int → Int → zHp → Prop) (hI_58 : ∀ (y1 : Int) (y2 : Int) (y3 : Int) (h' : zHp), I_58 y1 y2 y3 h' → wpN G d M_X11_stays 58 [(0, vR 343), (1, vI y1), (2, vI y2), (3, vI y3)] [] h' Q) 
    (hv : ((2343 ≤ y3 → ((-2147483648 ≤ (gI h 343 2) - 1 ∧ (gI h 343 2) - 1 ≤ 2147483647) ∧ (∀ h2 : zHp, h2 = sI h 343 2 ((gI h 343 2) - 1) → ((-2147483648 ≤ 213 * (gI h2 343 2) ∧ 213 * (gI h2 343 2) ≤ 2147483647) ∧ (wpN G (d - 1) M_X11_copies 0 (zar 0 [vR 347, vI 0, vR 345, vI (213 * (gI h2 343 2))]) [] h2 (qV (fun h5 => zSh h5 ∧ ((-2147483648 ≤ (gI h5 343 2) + 1 ∧ (gI h5 343 2) + 1 ≤ 2147483647) ∧ (∀ h8 : zHp, h8 = sI h5 343 2 ((gI h5 343 2) + 1) → (∀ h10 : zHp, h10 = sI h8 343 4 0 → Q (some (vI 1)) h10)))))))))) ∧ (y3 < 2343 → ((-2147483648 ≤ y3 + 213 ∧ y3 + 213 ≤ 2147483647) ∧ (((0 : Int) ≤ (y3 + 213) ∧ (y3 + 213) < ((2556 : Nat) : Int)) ∧ (((0 : Int) ≤ y3 ∧ y3 < ((2556 : Nat) : Int)) ∧ (∀ h12 : zHp, h12 = sI h 345 y3.toNat (gI h 345 (y3 + 213).toNat) → ((-2147483648 ≤ y3 + 1 ∧ y3 + 1 ≤ 2147483647) ∧ ∀ x14 : Int, x14 = y3 + 1 → (zSh h12 → I_58 y1 y2 x14 h12))))))))) : wpN G d M_X11_stays 58 [(0, vR 343), (1, vI y1), (2, vI y2), (3, vI y3)] [] h Q := by
  refine wq_iload_n 3 rfl rfl dX11_stays_58 ?_
  refine wq_sipush (z := 2343) (zlit rfl) rfl dX11_stays_59 ?_
  refine wq_icmp_ge 87 rfl dX11_stays_62 (fun c1 => ?_) (fun c1 => ?_)
  · refine wq_aload_n 0 rfl rfl dX11_stays_87 ?_
    refine wq_dup rfl dX11_stays_88 ?_
    refine wq_getI fk_X11_317 tT_343 (fun _ _ _ => rfl) dX11_stays_89 ?_
    refine wq_iconst (z := 1) (zlit rfl) dX11_stays_92 ?_
    refine wq_isub (hv.1 c1).1 dX11_stays_93 ?_
    refine wq_putI fk_X11_317 tT_343 rfl rfl dX11_stays_94 ?_
    refine wq_toph (fun h2 e3 => ?_)
    have sh2 : zSh h2 := zSh_of e3 hS
    refine wq_aload_n 0 rfl rfl dX11_stays_97 ?_
    refine wq_getR fk_X11_19 tT_343 (fun _ _ _ => rfl) (sh_11_5 sh2) (by decide) dX11_stays_98 ?_
    refine wq_iconst (z := 0) (zlit rfl) dX11_stays_101 ?_
    refine wq_aload_n 0 rfl rfl dX11_stays_102 ?_
    refine wq_getR fk_X11_13 tT_343 (fun _ _ _ => rfl) (sh_11_1 sh2) (by decide) dX11_stays_103 ?_
    refine wq_sipush (z := 213) (zlit rfl) rfl dX11_stays_106 ?_
    refine wq_aload_n 0 rfl rfl dX11_stays_109 ?_
    refine wq_getI fk_X11_317 tT_343 (fun _ _ _ => rfl) dX11_stays_110 ?_
    refine wq_imul ((hv.1 c1).2 h2 e3).1 dX11_stays_113 ?_
    refine wN_S (As := [vR 347, vI 0, vR 345, vI (213 * (gI h2 343 2))]) md_X11_copies ms_X11_copies lk_X11_306 rfl rfl (Nat.le_of_ble_eq_true rfl) (Nat.le_of_ble_eq_true rfl) (d' := d - 1) (by omega) dX11_stays_114 ((hv.1 c1).2 h2 e3).2 (fun v9 h5 q6 => ?_)
    obtain ⟨rfl, hS7, q6⟩ := q6
    refine wq_st (st' := []) rfl ?_
    refine wq_aload_n 0 rfl rfl dX11_stays_117 ?_
    refine wq_dup rfl dX11_stays_118 ?_
    refine wq_getI fk_X11_317 tT_343 (fun _ _ _ => rfl) dX11_stays_119 ?_
    refine wq_iconst (z := 1) (zlit rfl) dX11_stays_122 ?_
    refine wq_iadd q6.1 dX11_stays_123 ?_
    refine wq_putI fk_X11_317 tT_343 rfl rfl dX11_stays_124 ?_
    refine wq_toph (fun h8 e9 => ?_)
    have sh8 : zSh h8 := zSh_of e9 hS7
    refine wq_aload_n 0 rfl rfl dX11_stays_127 ?_
    refine wq_iconst (z := 0) (zlit rfl) dX11_stays_128 ?_
    refine wq_putI fk_X11_320 tT_343 rfl rfl dX11_stays_129 ?_
    refine wq_toph (fun h10 e11 => ?_)
    have sh10 : zSh h10 := zSh_of e11 sh8
    refine wq_iconst (z := 1) (zlit rfl) dX11_stays_132 ?_
    exact wp_zret (Or.inr rfl) rfl dX11_stays_133 ((q6.2 h8 e9) h10 e11)
  · refine wq_aload_n 0 rfl rfl dX11_stays_65 ?_
    refine wq_getR fk_X11_13 tT_343 (fun _ _ _ => rfl) (sh_11_1 hS) (by decide) dX11_stays_66 ?_
    refine wq_iload_n 3 rfl rfl dX11_stays_69 ?_
    refine wq_aload_n 0 rfl rfl dX11_stays_70 ?_
    refine wq_getR fk_X11_13 tT_343 (fun _ _ _ => rfl) (sh_11_1 hS) (by decide) dX11_stays_71 ?_
    refine wq_iload_n 3 rfl rfl dX11_stays_74 ?_
    refine wq_sipush (z := 213) (zlit rfl) rfl dX11_stays_75 ?_
    refine wq_iadd (hv.2 c1).1 dX11_stays_78 ?_
    refine wq_iald tT_345 (hv.2 c1).2.1.1 (hv.2 c1).2.1.2 dX11_stays_79 ?_
    refine wq_iast tT_345 (hv.2 c1).2.2.1.1 (hv.2 c1).2.2.1.2 dX11_stays_80 ?_
    refine wq_toph (fun h12 e13 => ?_)
    have sh12 : zSh h12 := zSh_of e13 hS
    refine z_nm (y3 + 1) (fun x14 e15 => ?_)
    refine wq_iinc (y := x14) (ls' := [(0, vR 343), (1, vI y1), (2, vI y2), (3, vI x14)]) 3 rfl e15.symm (by rw [e15]; exact ((hv.2 c1).2.2.2 h12 e13).1) (by decide) rfl dX11_stays_81 ?_
    refine wq_goto 58 rfl dX11_stays_84 ?_
    exact wq_pick [0, 1, 2, 3] rfl (hI_58 y1 y2 x14 h12 ((((hv.2 c1).2.2.2 h12 e13).2 x14 e15) sh12))
theorem dX11_length_0 : decode cX11_length 0 = .ok (.aload_n 0, 1) := by decide +kernel
theorem dX11_length_1 : decode cX11_length 1 = .ok (.invokevirtual 218, 3) := by decide +kernel
theorem dX11_length_4 : decode cX11_length 4 = .ok (.ireturn, 1) := by decide +kernel
theorem vc_X11_length_0 {G : zG} {d : Nat} {Q : Option zV → zHp → Prop}  (h : zHp) (hS : zSh h) (hd : 1 ≤ d)  
    (hv : (wpN G (d - 1) M_X11_size 0 (zar 0 [vR 343]) [] h (qI (fun z1 h2 => zSh h2 ∧ Q (some (vI z1)) h2)))) : wpN G d M_X11_length 0 [(0, vR 343)] [] h Q := by
  refine wq_aload_n 0 rfl rfl dX11_length_0 ?_
  refine wN_V (As := []) vm_X11_size lk_X11_218 tT_343 rfl rfl (Nat.le_of_ble_eq_true rfl) (Nat.le_of_ble_eq_true rfl) (d' := d - 1) (by omega) dX11_length_1 hv (fun v9 h2 q3 => ?_)
  obtain ⟨z1, rfl, hS4, q3⟩ := q3
  refine wq_st (st' := [vI z1]) rfl ?_
  exact wp_iret rfl dX11_length_4 q3
theorem dX11_byteAt_0 : decode cX11_byteAt 0 = .ok (.iload_n 1, 1) := by decide +kernel
theorem dX11_byteAt_1 : decode cX11_byteAt 1 = .ok (.i2l, 1) := by decide +kernel
theorem dX11_byteAt_2 : decode cX11_byteAt 2 = .ok (.lconst 0, 1) := by decide +kernel
theorem dX11_byteAt_3 : decode cX11_byteAt 3 = .ok (.aload_n 0, 1) := by decide +kernel
theorem dX11_byteAt_4 : decode cX11_byteAt 4 = .ok (.invokevirtual 218, 3) := by decide +kernel
theorem dX11_byteAt_7 : decode cX11_byteAt 7 = .ok (.iconst 1, 1) := by decide +kernel
theorem dX11_byteAt_8 : decode cX11_byteAt 8 = .ok (.isub, 1) := by decide +kernel
theorem dX11_byteAt_9 : decode cX11_byteAt 9 = .ok (.i2l, 1) := by decide +kernel
theorem dX11_byteAt_10 : decode cX11_byteAt 10 = .ok (.invokestatic 91, 3) := by decide +kernel
theorem dX11_byteAt_13 : decode cX11_byteAt 13 = .ok (.ifCond .eq 12, 3) := by decide +kernel
theorem dX11_byteAt_16 : decode cX11_byteAt 16 = .ok (.aload_n 0, 1) := by decide +kernel
theorem dX11_byteAt_17 : decode cX11_byteAt 17 = .ok (.getfield 7, 3) := by decide +kernel
theorem dX11_byteAt_20 : decode cX11_byteAt 20 = .ok (.iload_n 1, 1) := by decide +kernel
theorem dX11_byteAt_21 : decode cX11_byteAt 21 = .ok (.iaload, 1) := by decide +kernel
theorem dX11_byteAt_22 : decode cX11_byteAt 22 = .ok (.goto 6, 3) := by decide +kernel
theorem dX11_byteAt_25 : decode cX11_byteAt 25 = .ok (.sipush (-1001), 3) := by decide +kernel
theorem dX11_byteAt_28 : decode cX11_byteAt 28 = .ok (.ireturn, 1) := by decide +kernel
theorem vc_X11_byteAt_0 {G : zG} {d : Nat} {Q : Option zV → zHp → Prop} (p1 : Int) (h : zHp) (hS : zSh h) (hd : 1 ≤ d)  
    (hv : (wpN G (d - 1) M_X11_size 0 (zar 0 [vR 343]) [] h (qI (fun z1 h2 => zSh h2 ∧ ((-2147483648 ≤ z1 - 1 ∧ z1 - 1 ≤ 2147483647) ∧ (wpN G (d - 1) M_X11_in 0 (zar 0 [vL p1, vL 0, vL (z1 - 1)]) [] h2 (qI (fun z5 h6 => zSh h6 ∧ ((z5 = 0 → Q (some (vI (-1001))) h6) ∧ (z5 ≠ 0 → (((0 : Int) ≤ p1 ∧ p1 < ((213 : Nat) : Int)) ∧ Q (some (vI (gI h6 344 p1.toNat))) h6))))))))))) : wpN G d M_X11_byteAt 0 [(0, vR 343), (1, vI p1)] [] h Q := by
  refine wq_iload_n 1 rfl rfl dX11_byteAt_0 ?_
  refine wq_i2l dX11_byteAt_1 ?_
  refine wq_lconst (z := 0) (zlitL rfl) rfl dX11_byteAt_2 ?_
  refine wq_aload_n 0 rfl rfl dX11_byteAt_3 ?_
  refine wN_V (As := []) vm_X11_size lk_X11_218 tT_343 rfl rfl (Nat.le_of_ble_eq_true rfl) (Nat.le_of_ble_eq_true rfl) (d' := d - 1) (by omega) dX11_byteAt_4 hv (fun v9 h2 q3 => ?_)
  obtain ⟨z1, rfl, hS4, q3⟩ := q3
  refine wq_st (st' := [vI z1, vL 0, vL p1]) rfl ?_
  refine wq_iconst (z := 1) (zlit rfl) dX11_byteAt_7 ?_
  refine wq_isub q3.1 dX11_byteAt_8 ?_
  refine wq_i2l dX11_byteAt_9 ?_
  refine wN_S (As := [vL p1, vL 0, vL (z1 - 1)]) md_X11_in ms_X11_in lk_X11_91 rfl rfl (Nat.le_of_ble_eq_true rfl) (Nat.le_of_ble_eq_true rfl) (d' := d - 1) (by omega) dX11_byteAt_10 q3.2 (fun v9 h6 q7 => ?_)
  obtain ⟨z5, rfl, hS8, q7⟩ := q7
  refine wq_st (st' := [vI z5]) rfl ?_
  refine wq_if_eq 25 rfl dX11_byteAt_13 (fun c9 => ?_) (fun c9 => ?_)
  · refine wq_sipush (z := -1001) (zlit rfl) rfl dX11_byteAt_25 ?_
    exact wp_iret rfl dX11_byteAt_28 (q7.1 c9)
  · refine wq_aload_n 0 rfl rfl dX11_byteAt_16 ?_
    refine wq_getR fk_X11_7 tT_343 (fun _ _ _ => rfl) (sh_11_0 hS8) (by decide) dX11_byteAt_17 ?_
    refine wq_iload_n 1 rfl rfl dX11_byteAt_20 ?_
    refine wq_iald tT_344 (q7.2 c9).1.1 (q7.2 c9).1.2 dX11_byteAt_21 ?_
    refine wq_goto 28 rfl dX11_byteAt_22 ?_
    exact wp_iret rfl dX11_byteAt_28 (q7.2 c9).2
