theorem dX10_init_0 : decode cX10_init 0 = .ok (.aload_n 0, 1) := by decide +kernel
theorem dX10_init_1 : decode cX10_init 1 = .ok (.invokespecial 1, 3) := by decide +kernel
theorem dX10_init_4 : decode cX10_init 4 = .ok (.aload_n 0, 1) := by decide +kernel
theorem dX10_init_5 : decode cX10_init 5 = .ok (.new 7, 3) := by decide +kernel
theorem dX10_init_8 : decode cX10_init 8 = .ok (.dup, 1) := by decide +kernel
theorem dX10_init_9 : decode cX10_init 9 = .ok (.bipush 120, 2) := by decide +kernel
theorem dX10_init_11 : decode cX10_init 11 = .ok (.invokespecial 11, 3) := by decide +kernel
theorem dX10_init_14 : decode cX10_init 14 = .ok (.putfield 14, 3) := by decide +kernel
theorem dX10_init_17 : decode cX10_init 17 = .ok (.aload_n 0, 1) := by decide +kernel
theorem dX10_init_18 : decode cX10_init 18 = .ok (.new 7, 3) := by decide +kernel
theorem dX10_init_21 : decode cX10_init 21 = .ok (.dup, 1) := by decide +kernel
theorem dX10_init_22 : decode cX10_init 22 = .ok (.bipush 32, 2) := by decide +kernel
theorem dX10_init_24 : decode cX10_init 24 = .ok (.invokespecial 11, 3) := by decide +kernel
theorem dX10_init_27 : decode cX10_init 27 = .ok (.putfield 18, 3) := by decide +kernel
theorem dX10_init_30 : decode cX10_init 30 = .ok (.aload_n 0, 1) := by decide +kernel
theorem dX10_init_31 : decode cX10_init 31 = .ok (.new 7, 3) := by decide +kernel
theorem dX10_init_34 : decode cX10_init 34 = .ok (.dup, 1) := by decide +kernel
theorem dX10_init_35 : decode cX10_init 35 = .ok (.sipush 200, 3) := by decide +kernel
theorem dX10_init_38 : decode cX10_init 38 = .ok (.invokespecial 11, 3) := by decide +kernel
theorem dX10_init_41 : decode cX10_init 41 = .ok (.putfield 21, 3) := by decide +kernel
theorem dX10_init_44 : decode cX10_init 44 = .ok (.aload_n 0, 1) := by decide +kernel
theorem dX10_init_45 : decode cX10_init 45 = .ok (.new 24, 3) := by decide +kernel
theorem dX10_init_48 : decode cX10_init 48 = .ok (.dup, 1) := by decide +kernel
theorem dX10_init_49 : decode cX10_init 49 = .ok (.invokespecial 26, 3) := by decide +kernel
theorem dX10_init_52 : decode cX10_init 52 = .ok (.putfield 27, 3) := by decide +kernel
theorem dX10_init_55 : decode cX10_init 55 = .ok (.aload_n 0, 1) := by decide +kernel
theorem dX10_init_56 : decode cX10_init 56 = .ok (.new 31, 3) := by decide +kernel
theorem dX10_init_59 : decode cX10_init 59 = .ok (.dup, 1) := by decide +kernel
theorem dX10_init_60 : decode cX10_init 60 = .ok (.aload_n 0, 1) := by decide +kernel
theorem dX10_init_61 : decode cX10_init 61 = .ok (.getfield 27, 3) := by decide +kernel
theorem dX10_init_64 : decode cX10_init 64 = .ok (.invokespecial 33, 3) := by decide +kernel
theorem dX10_init_67 : decode cX10_init 67 = .ok (.putfield 36, 3) := by decide +kernel
theorem dX10_init_70 : decode cX10_init 70 = .ok (.aload_n 0, 1) := by decide +kernel
theorem dX10_init_71 : decode cX10_init 71 = .ok (.iconst 4, 1) := by decide +kernel
theorem dX10_init_72 : decode cX10_init 72 = .ok (.anewarray 40, 3) := by decide +kernel
theorem dX10_init_75 : decode cX10_init 75 = .ok (.putfield 42, 3) := by decide +kernel
theorem dX10_init_78 : decode cX10_init 78 = .ok (.iconst 0, 1) := by decide +kernel
theorem dX10_init_79 : decode cX10_init 79 = .ok (.istore_n 1, 1) := by decide +kernel
theorem dX10_init_80 : decode cX10_init 80 = .ok (.iload_n 1, 1) := by decide +kernel
theorem dX10_init_81 : decode cX10_init 81 = .ok (.iconst 4, 1) := by decide +kernel
theorem dX10_init_82 : decode cX10_init 82 = .ok (.if_icmp .ge 22, 3) := by decide +kernel
theorem dX10_init_85 : decode cX10_init 85 = .ok (.aload_n 0, 1) := by decide +kernel
theorem dX10_init_86 : decode cX10_init 86 = .ok (.getfield 42, 3) := by decide +kernel
theorem dX10_init_89 : decode cX10_init 89 = .ok (.iload_n 1, 1) := by decide +kernel
theorem dX10_init_90 : decode cX10_init 90 = .ok (.new 40, 3) := by decide +kernel
theorem dX10_init_93 : decode cX10_init 93 = .ok (.dup, 1) := by decide +kernel
theorem dX10_init_94 : decode cX10_init 94 = .ok (.invokespecial 46, 3) := by decide +kernel
theorem dX10_init_97 : decode cX10_init 97 = .ok (.aastore, 1) := by decide +kernel
theorem dX10_init_98 : decode cX10_init 98 = .ok (.iinc 1 1, 3) := by decide +kernel
theorem dX10_init_101 : decode cX10_init 101 = .ok (.goto (-21), 3) := by decide +kernel
theorem dX10_init_104 : decode cX10_init 104 = .ok (.aload_n 0, 1) := by decide +kernel
theorem dX10_init_105 : decode cX10_init 105 = .ok (.new 40, 3) := by decide +kernel
theorem dX10_init_108 : decode cX10_init 108 = .ok (.dup, 1) := by decide +kernel
theorem dX10_init_109 : decode cX10_init 109 = .ok (.invokespecial 46, 3) := by decide +kernel
theorem dX10_init_112 : decode cX10_init 112 = .ok (.putfield 47, 3) := by decide +kernel
theorem dX10_init_115 : decode cX10_init 115 = .ok (.aload_n 0, 1) := by decide +kernel
theorem dX10_init_116 : decode cX10_init 116 = .ok (.new 51, 3) := by decide +kernel
theorem dX10_init_119 : decode cX10_init 119 = .ok (.dup, 1) := by decide +kernel
theorem dX10_init_120 : decode cX10_init 120 = .ok (.aload_n 0, 1) := by decide +kernel
theorem dX10_init_121 : decode cX10_init 121 = .ok (.getfield 14, 3) := by decide +kernel
theorem dX10_init_124 : decode cX10_init 124 = .ok (.aload_n 0, 1) := by decide +kernel
theorem dX10_init_125 : decode cX10_init 125 = .ok (.getfield 47, 3) := by decide +kernel
theorem dX10_init_128 : decode cX10_init 128 = .ok (.invokespecial 53, 3) := by decide +kernel
theorem dX10_init_131 : decode cX10_init 131 = .ok (.putfield 56, 3) := by decide +kernel
theorem dX10_init_134 : decode cX10_init 134 = .ok (.aload_n 0, 1) := by decide +kernel
theorem dX10_init_135 : decode cX10_init 135 = .ok (.new 60, 3) := by decide +kernel
theorem dX10_init_138 : decode cX10_init 138 = .ok (.dup, 1) := by decide +kernel
theorem dX10_init_139 : decode cX10_init 139 = .ok (.invokespecial 62, 3) := by decide +kernel
theorem dX10_init_142 : decode cX10_init 142 = .ok (.putfield 63, 3) := by decide +kernel
theorem dX10_init_145 : decode cX10_init 145 = .ok (.aload_n 0, 1) := by decide +kernel
theorem dX10_init_146 : decode cX10_init 146 = .ok (.new 67, 3) := by decide +kernel
theorem dX10_init_149 : decode cX10_init 149 = .ok (.dup, 1) := by decide +kernel
theorem dX10_init_150 : decode cX10_init 150 = .ok (.aload_n 0, 1) := by decide +kernel
theorem dX10_init_151 : decode cX10_init 151 = .ok (.getfield 47, 3) := by decide +kernel
theorem dX10_init_154 : decode cX10_init 154 = .ok (.aload_n 0, 1) := by decide +kernel
theorem dX10_init_155 : decode cX10_init 155 = .ok (.getfield 27, 3) := by decide +kernel
theorem dX10_init_158 : decode cX10_init 158 = .ok (.getfield 69, 3) := by decide +kernel
theorem dX10_init_161 : decode cX10_init 161 = .ok (.invokespecial 72, 3) := by decide +kernel
theorem dX10_init_164 : decode cX10_init 164 = .ok (.putfield 75, 3) := by decide +kernel
theorem dX10_init_167 : decode cX10_init 167 = .ok (.aload_n 0, 1) := by decide +kernel
theorem dX10_init_168 : decode cX10_init 168 = .ok (.sipush 201, 3) := by decide +kernel
theorem dX10_init_171 : decode cX10_init 171 = .ok (.newarray .int, 2) := by decide +kernel
theorem dX10_init_173 : decode cX10_init 173 = .ok (.putfield 79, 3) := by decide +kernel
theorem dX10_init_176 : decode cX10_init 176 = .ok (.aload_n 0, 1) := by decide +kernel
theorem dX10_init_177 : decode cX10_init 177 = .ok (.iconst 0, 1) := by decide +kernel
theorem dX10_init_178 : decode cX10_init 178 = .ok (.putfield 83, 3) := by decide +kernel
theorem dX10_init_181 : decode cX10_init 181 = .ok (.return_, 1) := by decide +kernel
theorem dX11_init_0 : decode cX11_init 0 = .ok (.aload_n 0, 1) := by decide +kernel
theorem dX11_init_1 : decode cX11_init 1 = .ok (.invokespecial 1, 3) := by decide +kernel
theorem dX11_init_4 : decode cX11_init 4 = .ok (.aload_n 0, 1) := by decide +kernel
theorem dX11_init_5 : decode cX11_init 5 = .ok (.sipush 213, 3) := by decide +kernel
theorem dX11_init_8 : decode cX11_init 8 = .ok (.newarray .int, 2) := by decide +kernel
theorem dX11_init_10 : decode cX11_init 10 = .ok (.putfield 7, 3) := by decide +kernel
theorem dX11_init_13 : decode cX11_init 13 = .ok (.aload_n 0, 1) := by decide +kernel
theorem dX11_init_14 : decode cX11_init 14 = .ok (.sipush 2556, 3) := by decide +kernel
theorem dX11_init_17 : decode cX11_init 17 = .ok (.newarray .int, 2) := by decide +kernel
theorem dX11_init_19 : decode cX11_init 19 = .ok (.putfield 13, 3) := by decide +kernel
theorem dX11_init_22 : decode cX11_init 22 = .ok (.aload_n 0, 1) := by decide +kernel
theorem dX11_init_23 : decode cX11_init 23 = .ok (.sipush 2556, 3) := by decide +kernel
theorem dX11_init_26 : decode cX11_init 26 = .ok (.newarray .int, 2) := by decide +kernel
theorem dX11_init_28 : decode cX11_init 28 = .ok (.putfield 16, 3) := by decide +kernel
theorem dX11_init_31 : decode cX11_init 31 = .ok (.aload_n 0, 1) := by decide +kernel
theorem dX11_init_32 : decode cX11_init 32 = .ok (.sipush 213, 3) := by decide +kernel
theorem dX11_init_35 : decode cX11_init 35 = .ok (.newarray .int, 2) := by decide +kernel
theorem dX11_init_37 : decode cX11_init 37 = .ok (.putfield 19, 3) := by decide +kernel
theorem dX11_init_40 : decode cX11_init 40 = .ok (.aload_n 0, 1) := by decide +kernel
theorem dX11_init_41 : decode cX11_init 41 = .ok (.bipush 32, 2) := by decide +kernel
theorem dX11_init_43 : decode cX11_init 43 = .ok (.newarray .int, 2) := by decide +kernel
theorem dX11_init_45 : decode cX11_init 45 = .ok (.putfield 22, 3) := by decide +kernel
theorem dX11_init_48 : decode cX11_init 48 = .ok (.aload_n 0, 1) := by decide +kernel
theorem dX11_init_49 : decode cX11_init 49 = .ok (.sipush 200, 3) := by decide +kernel
theorem dX11_init_52 : decode cX11_init 52 = .ok (.newarray .int, 2) := by decide +kernel
theorem dX11_init_54 : decode cX11_init 54 = .ok (.putfield 25, 3) := by decide +kernel
theorem dX11_init_57 : decode cX11_init 57 = .ok (.aload_n 0, 1) := by decide +kernel
theorem dX11_init_58 : decode cX11_init 58 = .ok (.bipush 120, 2) := by decide +kernel
theorem dX11_init_60 : decode cX11_init 60 = .ok (.newarray .int, 2) := by decide +kernel
theorem dX11_init_62 : decode cX11_init 62 = .ok (.putfield 28, 3) := by decide +kernel
theorem dX11_init_65 : decode cX11_init 65 = .ok (.aload_n 0, 1) := by decide +kernel
theorem dX11_init_66 : decode cX11_init 66 = .ok (.sipush 1680, 3) := by decide +kernel
theorem dX11_init_69 : decode cX11_init 69 = .ok (.newarray .int, 2) := by decide +kernel
theorem dX11_init_71 : decode cX11_init 71 = .ok (.putfield 31, 3) := by decide +kernel
theorem dX11_init_74 : decode cX11_init 74 = .ok (.aload_n 0, 1) := by decide +kernel
theorem dX11_init_75 : decode cX11_init 75 = .ok (.iconst 5, 1) := by decide +kernel
theorem dX11_init_76 : decode cX11_init 76 = .ok (.newarray .int, 2) := by decide +kernel
theorem dX11_init_78 : decode cX11_init 78 = .ok (.putfield 34, 3) := by decide +kernel
theorem dX11_init_81 : decode cX11_init 81 = .ok (.aload_n 0, 1) := by decide +kernel
theorem dX11_init_82 : decode cX11_init 82 = .ok (.bipush 32, 2) := by decide +kernel
theorem dX11_init_84 : decode cX11_init 84 = .ok (.newarray .int, 2) := by decide +kernel
theorem dX11_init_86 : decode cX11_init 86 = .ok (.putfield 37, 3) := by decide +kernel
theorem dX11_init_89 : decode cX11_init 89 = .ok (.aload_n 0, 1) := by decide +kernel
theorem dX11_init_90 : decode cX11_init 90 = .ok (.bipush 60, 2) := by decide +kernel
theorem dX11_init_92 : decode cX11_init 92 = .ok (.newarray .int, 2) := by decide +kernel
theorem dX11_init_94 : decode cX11_init 94 = .ok (.putfield 40, 3) := by decide +kernel
theorem dX11_init_97 : decode cX11_init 97 = .ok (.aload_n 0, 1) := by decide +kernel
theorem dX11_init_98 : decode cX11_init 98 = .ok (.bipush 60, 2) := by decide +kernel
theorem dX11_init_100 : decode cX11_init 100 = .ok (.newarray .int, 2) := by decide +kernel
theorem dX11_init_102 : decode cX11_init 102 = .ok (.putfield 43, 3) := by decide +kernel
theorem dX11_init_105 : decode cX11_init 105 = .ok (.aload_n 0, 1) := by decide +kernel
theorem dX11_init_106 : decode cX11_init 106 = .ok (.bipush 60, 2) := by decide +kernel
theorem dX11_init_108 : decode cX11_init 108 = .ok (.newarray .int, 2) := by decide +kernel
theorem dX11_init_110 : decode cX11_init 110 = .ok (.putfield 46, 3) := by decide +kernel
theorem dX11_init_113 : decode cX11_init 113 = .ok (.aload_n 0, 1) := by decide +kernel
theorem dX11_init_114 : decode cX11_init 114 = .ok (.bipush 60, 2) := by decide +kernel
theorem dX11_init_116 : decode cX11_init 116 = .ok (.newarray .int, 2) := by decide +kernel
theorem dX11_init_118 : decode cX11_init 118 = .ok (.putfield 49, 3) := by decide +kernel
theorem dX11_init_121 : decode cX11_init 121 = .ok (.aload_n 0, 1) := by decide +kernel
theorem dX11_init_122 : decode cX11_init 122 = .ok (.bipush 60, 2) := by decide +kernel
theorem dX11_init_124 : decode cX11_init 124 = .ok (.newarray .int, 2) := by decide +kernel
theorem dX11_init_126 : decode cX11_init 126 = .ok (.putfield 52, 3) := by decide +kernel
theorem dX11_init_129 : decode cX11_init 129 = .ok (.aload_n 0, 1) := by decide +kernel
theorem dX11_init_130 : decode cX11_init 130 = .ok (.bipush 60, 2) := by decide +kernel
theorem dX11_init_132 : decode cX11_init 132 = .ok (.newarray .int, 2) := by decide +kernel
theorem dX11_init_134 : decode cX11_init 134 = .ok (.putfield 55, 3) := by decide +kernel
theorem dX11_init_137 : decode cX11_init 137 = .ok (.aload_n 0, 1) := by decide +kernel
theorem dX11_init_138 : decode cX11_init 138 = .ok (.bipush 60, 2) := by decide +kernel
theorem dX11_init_140 : decode cX11_init 140 = .ok (.newarray .int, 2) := by decide +kernel
theorem dX11_init_142 : decode cX11_init 142 = .ok (.putfield 58, 3) := by decide +kernel
theorem dX11_init_145 : decode cX11_init 145 = .ok (.aload_n 0, 1) := by decide +kernel
theorem dX11_init_146 : decode cX11_init 146 = .ok (.sipush 240, 3) := by decide +kernel
theorem dX11_init_149 : decode cX11_init 149 = .ok (.newarray .int, 2) := by decide +kernel
theorem dX11_init_151 : decode cX11_init 151 = .ok (.putfield 61, 3) := by decide +kernel
theorem dX11_init_154 : decode cX11_init 154 = .ok (.aload_n 0, 1) := by decide +kernel
theorem dX11_init_155 : decode cX11_init 155 = .ok (.bipush 24, 2) := by decide +kernel
theorem dX11_init_157 : decode cX11_init 157 = .ok (.newarray .long, 2) := by decide +kernel
theorem dX11_init_159 : decode cX11_init 159 = .ok (.putfield 64, 3) := by decide +kernel
theorem dX11_init_162 : decode cX11_init 162 = .ok (.aload_n 0, 1) := by decide +kernel
theorem dX11_init_163 : decode cX11_init 163 = .ok (.bipush 24, 2) := by decide +kernel
theorem dX11_init_165 : decode cX11_init 165 = .ok (.newarray .int, 2) := by decide +kernel
theorem dX11_init_167 : decode cX11_init 167 = .ok (.putfield 68, 3) := by decide +kernel
theorem dX11_init_170 : decode cX11_init 170 = .ok (.aload_n 0, 1) := by decide +kernel
theorem dX11_init_171 : decode cX11_init 171 = .ok (.bipush 24, 2) := by decide +kernel
theorem dX11_init_173 : decode cX11_init 173 = .ok (.newarray .int, 2) := by decide +kernel
theorem dX11_init_175 : decode cX11_init 175 = .ok (.putfield 71, 3) := by decide +kernel
theorem dX11_init_178 : decode cX11_init 178 = .ok (.aload_n 0, 1) := by decide +kernel
theorem dX11_init_179 : decode cX11_init 179 = .ok (.iconst 4, 1) := by decide +kernel
theorem dX11_init_180 : decode cX11_init 180 = .ok (.newarray .int, 2) := by decide +kernel
theorem dX11_init_182 : decode cX11_init 182 = .ok (.putfield 74, 3) := by decide +kernel
theorem dX11_init_185 : decode cX11_init 185 = .ok (.aload_n 0, 1) := by decide +kernel
theorem dX11_init_186 : decode cX11_init 186 = .ok (.iconst 4, 1) := by decide +kernel
theorem dX11_init_187 : decode cX11_init 187 = .ok (.newarray .int, 2) := by decide +kernel
theorem dX11_init_189 : decode cX11_init 189 = .ok (.putfield 77, 3) := by decide +kernel
theorem dX11_init_192 : decode cX11_init 192 = .ok (.aload_n 0, 1) := by decide +kernel
theorem dX11_init_193 : decode cX11_init 193 = .ok (.iconst 4, 1) := by decide +kernel
theorem dX11_init_194 : decode cX11_init 194 = .ok (.newarray .int, 2) := by decide +kernel
theorem dX11_init_196 : decode cX11_init 196 = .ok (.putfield 80, 3) := by decide +kernel
theorem dX11_init_199 : decode cX11_init 199 = .ok (.aload_n 0, 1) := by decide +kernel
theorem dX11_init_200 : decode cX11_init 200 = .ok (.iconst 4, 1) := by decide +kernel
theorem dX11_init_201 : decode cX11_init 201 = .ok (.newarray .int, 2) := by decide +kernel
theorem dX11_init_203 : decode cX11_init 203 = .ok (.putfield 83, 3) := by decide +kernel
theorem dX11_init_206 : decode cX11_init 206 = .ok (.aload_n 0, 1) := by decide +kernel
theorem dX11_init_207 : decode cX11_init 207 = .ok (.sipush 201, 3) := by decide +kernel
theorem dX11_init_210 : decode cX11_init 210 = .ok (.newarray .int, 2) := by decide +kernel
theorem dX11_init_212 : decode cX11_init 212 = .ok (.putfield 86, 3) := by decide +kernel
theorem dX11_init_215 : decode cX11_init 215 = .ok (.return_, 1) := by decide +kernel
/-! the editor's and the model's constructors -/
def zz0 : zHp := (fun _ _ => 0, fun _ _ => 0, fun _ _ => 0)
def wEl (h : zHp) : Nat → zHp
  | 0 => h
  | i + 1 => sR (wTm (81 + 26 * i) (wEl h i)) 80 i (81 + 26 * i)
def wEs (h : zHp) (i : Nat) : Nat → zHp
  | 0 => h
  | m + 1 => wEs (sR (wTm (81 + 26 * i) h) 80 i (81 + 26 * i)) (i + 1) m
theorem wEs_l {h : zHp} : ∀ m i, wEs (wEl h i) i m = wEl h (i + m)
  | 0, i => rfl
  | m + 1, i => by
    rw [show i + (m + 1) = (i + 1) + m by omega, ← wEs_l m (i + 1)]
    rfl
theorem gR_wTl (a : Nat) (h : zHp) (b j : Nat) (hb : b ≠ a + 1) : ∀ n, gR (wTl a h n) b j = gR h b j
  | 0 => rfl
  | n + 1 => by rw [wTl, gR_sR, if_neg (fun w => hb w.1), gR_wTl a h b j hb n]
theorem gR_wTm_lt {a b j : Nat} {h : zHp} (hb : b < a) : gR (wTm a h) b j = gR h b j := by
  unfold wTm
  rw [gR_sI, gR_wTl _ _ _ _ (by omega), gR_sR, if_neg (by omega)]
def eH1 : zHp := sR (sR (wHist (sR (wDoc 8 (sR (wRow 6 (sR (wRow 4 (sR (wRow 2 (zz0)) 1 0 2)) 1 1 4)) 1 2 6)) 1 3 8)) 1 4 13) 1 5 80
def wEd : zHp := sI (sR (sR (wLay (sR (wPat (sR (wPar (sR (wTm 185 (wEl eH1 4)) 1 10 185)) 1 6 211)) 1 7 212)) 1 8 215) 1 9 342) 1 11 0
def wMd (h : zHp) : zHp := sR (sR (sR (sR (sR (sR (sR (sR (sR (sR (sR (sR (sR (sR (sR (sR (sR (sR (sR (sR (sR (sR (sR (sR (sR (sR (h) 343 0 344) 343 1 345) 343 3 346) 343 5 347) 343 7 348) 343 9 349) 343 11 350) 343 13 351) 343 14 352) 343 21 353) 343 23 354) 343 24 355) 343 25 356) 343 26 357) 343 27 358) 343 28 359) 343 29 360) 343 30 361) 343 35 362) 343 36 363) 343 37 364) 343 38 365) 343 39 366) 343 40 367) 343 42 368) 343 43 369
section CTOR2
variable {G : zG} {d : Nat} {Q : Option zV → zHp → Prop} {h : zHp}
theorem ct_X10 (hd : 4 ≤ d) (k : Q none wEd) : wp G d 1 342 M_X10_init 1 0 (zar 0 [vR 1]) [] zz0 Q := by
  have loop : ∀ (m i : Nat) (g : zHp), i + m = 4 → gR g 1 5 = 80 → wp G d 1 342 M_X10_init 184 104 [(0, vR 1)] [] (wEs g i m) Q → wp G d 1 342 M_X10_init (80 + 26 * i) 80 [(0, vR 1), (1, vI (i : Int))] [] g Q := by
    intro m
    induction m with
    | zero =>
      intro i g hi hg k
      refine wq_iload_n 1 rfl rfl dX10_init_80 ?_
      refine wq_iconst (z := 4) (zlit rfl) dX10_init_81 ?_
      refine wq_icmp_ge 104 rfl dX10_init_82 (fun _ => ?_) (fun c => by omega)
      rw [show 80 + 26 * i = 184 by omega]
      exact wq_pick [0] rfl k
    | succ m ih =>
      intro i g0 hi hg k
      refine wq_iload_n 1 rfl rfl dX10_init_80 ?_
      refine wq_iconst (z := 4) (zlit rfl) dX10_init_81 ?_
      refine wq_icmp_ge 104 rfl dX10_init_82 (fun c => by omega) (fun _ => ?_)
      refine wq_aload_n 0 rfl rfl dX10_init_85 ?_
      refine wq_getR (r := 80) fk_X10_42 (zTn tT_1 (by decide) (by omega)) (fun _ _ _ => rfl) hg (by omega) dX10_init_86 ?_
      refine wq_iload_n 1 rfl rfl dX10_init_89 ?_
      refine wq_new1 (m := 81 + 26 * i) (by omega) cl_8 tb_8 ck_X10_40 in_X8 it_X8 (zTA (ztms (by omega)) (by decide)) (zQ1 (by omega)) (zQ2 (by omega)) dX10_init_90 ?_
      refine wq_dup rfl dX10_init_93 ?_
      refine wq_callI (nE' := (81 + 26 * i + 25)) (d' := d - 1) (Q' := fun v g => v = none ∧ g = wTm (81 + 26 * i) g0) (As := []) 0 md_X8_init rfl rfl mi_X8_init lk_X10_46 rfl rfl (Nat.le_of_ble_eq_true rfl) (Nat.le_of_ble_eq_true rfl) (by omega) (zFit_rm (by omega) (by omega)) dX10_init_94 (ct_X8 (by omega) (ztms (by omega)) ⟨rfl, rfl⟩) (fun v g q _ => ?_)
      obtain ⟨rfl, rfl⟩ := q
      refine wq_st (st' := [vR (81 + 26 * i), vI (i : Int), vR 80]) rfl ?_
      refine wq_aast (cc := 8) (zTn tT_80 (by decide) (by omega)) (by decide) (by decide) rfl (zTn (ztms (i := i) (by omega)) (by decide) (by omega)) (by omega) cl_8.1 (by omega) (by omega) dX10_init_97 ?_
      refine wq_iinc (y := ((i + 1 : Nat) : Int)) (ls' := [(0, vR 1), (1, vI ((i + 1 : Nat) : Int))]) 1 rfl (by omega) ⟨by omega, by omega⟩ (by decide) rfl dX10_init_98 ?_
      refine wq_goto 80 rfl dX10_init_101 ?_
      rw [show ((i : Nat) : Int).toNat = i by omega, show 81 + 26 * i + 25 = 80 + 26 * (i + 1) by omega]
      exact ih (i + 1) _ (by omega) (by rw [gR_sR, if_neg (by omega), gR_wTm_lt (by omega)]; exact hg) k
  have fin : wp G d 1 342 M_X10_init 184 104 [(0, vR 1)] [] (wEl eH1 4) Q := by
    refine wq_aload_n 0 rfl rfl dX10_init_104 ?_
    refine wq_new1 (m := 185) (by omega) cl_8 tb_8 ck_X10_40 in_X8 it_X8 (by decide +kernel) (zQ1 (by omega)) (zQ2 (by omega)) dX10_init_105 ?_
    refine wq_dup rfl dX10_init_108 ?_
    refine wq_callI (nE' := 210) (d' := d - 1) (Q' := fun v g => v = none ∧ g = wTm 185 (wEl eH1 4)) (As := []) 0 md_X8_init rfl rfl mi_X8_init lk_X10_46 rfl rfl (Nat.le_of_ble_eq_true rfl) (Nat.le_of_ble_eq_true rfl) (by omega) (zFit_rm (by omega) (by omega)) dX10_init_109 (ct_X8 (by omega) (by decide +kernel) ⟨rfl, rfl⟩) (fun v g q _ => ?_)
    obtain ⟨rfl, rfl⟩ := q
    refine wq_st (st' := [vR 185, vR 1]) rfl ?_
    refine wq_putR (by omega) fk_X10_47 (zTn tT_1 (by decide) (by omega)) (Or.inl rfl) (fun _ _ _ => rfl) (fun _ => rfl) (fun _ => rfl) dX10_init_112 ?_
    refine wq_aload_n 0 rfl rfl dX10_init_115 ?_
    refine wq_new1 (m := 211) (by omega) cl_9 tb_9 ck_X10_51 in_X9 it_X9 (by decide +kernel) (zQ1 (by omega)) (zQ2 (by omega)) dX10_init_116 ?_
    refine wq_dup rfl dX10_init_119 ?_
    refine wq_aload_n 0 rfl rfl dX10_init_120 ?_
    refine wq_getR (r := 2) fk_X10_14 (zTn tT_1 (by decide) (by omega)) (fun _ _ _ => rfl) (by decide +kernel) (by omega) dX10_init_121 ?_
    refine wq_aload_n 0 rfl rfl dX10_init_124 ?_
    refine wq_getR (r := 185) fk_X10_47 (zTn tT_1 (by decide) (by omega)) (fun _ _ _ => rfl) (by decide +kernel) (by omega) dX10_init_125 ?_
    refine wq_callI (nE' := 211) (d' := d - 1) (Q' := fun v g => v = none ∧ g = wPar (sR (wTm 185 (wEl eH1 4)) 1 10 185)) (As := [vR 2, vR 185]) 2 md_X9_init rfl rfl mi_X9_init lk_X10_53 rfl rfl (Nat.le_of_ble_eq_true rfl) (Nat.le_of_ble_eq_true rfl) (by omega) (zFit_rm (by omega) (by omega)) dX10_init_128 (ct_X9 (by omega) ⟨rfl, rfl⟩) (fun v g q _ => ?_)
    obtain ⟨rfl, rfl⟩ := q
    refine wq_st (st' := [vR 211, vR 1]) rfl ?_
    refine wq_putR (by omega) fk_X10_56 (zTn tT_1 (by decide) (by omega)) (Or.inr ⟨rfl, rfl, rfl⟩) (fun _ _ _ => rfl) (fun _ => rfl) (fun _ => rfl) dX10_init_131 ?_
    refine wq_aload_n 0 rfl rfl dX10_init_134 ?_
    refine wq_new1 (m := 212) (by omega) cl_7 tb_7 ck_X10_60 in_X7 it_X7 (by decide +kernel) (zQ1 (by omega)) (zQ2 (by omega)) dX10_init_135 ?_
    refine wq_dup rfl dX10_init_138 ?_
    refine wq_callI (nE' := 214) (d' := d - 1) (Q' := fun v g => v = none ∧ g = wPat (sR (wPar (sR (wTm 185 (wEl eH1 4)) 1 10 185)) 1 6 211)) (As := []) 0 md_X7_init rfl rfl mi_X7_init lk_X10_62 rfl rfl (Nat.le_of_ble_eq_true rfl) (Nat.le_of_ble_eq_true rfl) (by omega) (zFit_rm (by omega) (by omega)) dX10_init_139 (ct_X7 (by omega) ⟨rfl, rfl⟩) (fun v g q _ => ?_)
    obtain ⟨rfl, rfl⟩ := q
    refine wq_st (st' := [vR 212, vR 1]) rfl ?_
    refine wq_putR (by omega) fk_X10_63 (zTn tT_1 (by decide) (by omega)) (Or.inr ⟨rfl, rfl, rfl⟩) (fun _ _ _ => rfl) (fun _ => rfl) (fun _ => rfl) dX10_init_142 ?_
    refine wq_aload_n 0 rfl rfl dX10_init_145 ?_
    refine wq_new1 (m := 215) (by omega) cl_6 tb_6 ck_X10_67 in_X6 it_X6 (by decide +kernel) (zQ1 (by omega)) (zQ2 (by omega)) dX10_init_146 ?_
    refine wq_dup rfl dX10_init_149 ?_
    refine wq_aload_n 0 rfl rfl dX10_init_150 ?_
    refine wq_getR (r := 185) fk_X10_47 (zTn tT_1 (by decide) (by omega)) (fun _ _ _ => rfl) (by decide +kernel) (by omega) dX10_init_151 ?_
    refine wq_aload_n 0 rfl rfl dX10_init_154 ?_
    refine wq_getR (r := 8) fk_X10_27 (zTn tT_1 (by decide) (by omega)) (fun _ _ _ => rfl) (by decide +kernel) (by omega) dX10_init_155 ?_
    refine wq_getR (r := 9) fk_X10_69 (zTn tT_8 (by decide) (by omega)) (fun _ _ _ => rfl) (by decide +kernel) (by omega) dX10_init_158 ?_
    refine wq_callI (nE' := 341) (d' := d - 1) (Q' := fun v g => v = none ∧ g = wLay (sR (wPat (sR (wPar (sR (wTm 185 (wEl eH1 4)) 1 10 185)) 1 6 211)) 1 7 212)) (As := [vR 185, vR 9]) 2 md_X6_init rfl rfl mi_X6_init lk_X10_72 rfl rfl (Nat.le_of_ble_eq_true rfl) (Nat.le_of_ble_eq_true rfl) (by omega) (zFit_rm (by omega) (by omega)) dX10_init_161 (ct_X6 (by omega) ⟨rfl, rfl⟩) (fun v g q _ => ?_)
    obtain ⟨rfl, rfl⟩ := q
    refine wq_st (st' := [vR 215, vR 1]) rfl ?_
    refine wq_putR (by omega) fk_X10_75 (zTn tT_1 (by decide) (by omega)) (Or.inr ⟨rfl, rfl, rfl⟩) (fun _ _ _ => rfl) (fun _ => rfl) (fun _ => rfl) dX10_init_164 ?_
    refine wq_aload_n 0 rfl rfl dX10_init_167 ?_
    refine wq_sipush (z := 201) (zlit rfl) rfl dX10_init_168 ?_
    refine wq_newI1 (m := 342) (by omega) rfl (Nat.le_of_ble_eq_true rfl) ar_I (by decide +kernel) (zQ1 (by omega)) (zQ2 (by omega)) dX10_init_171 ?_
    refine wq_putR (by omega) fk_X10_79 (zTn tT_1 (by decide) (by omega)) (Or.inr ⟨rfl, rfl, rfl⟩) (fun _ _ _ => rfl) (fun _ => rfl) (fun _ => rfl) dX10_init_173 ?_
    refine wq_aload_n 0 rfl rfl dX10_init_176 ?_
    refine wq_iconst (z := 0) (zlit rfl) dX10_init_177 ?_
    refine wq_putZ (Or.inl rfl) fk_X10_83 (zTn tT_1 (by decide) (by omega)) rfl rfl dX10_init_178 ?_
    exact wp_vret rfl dX10_init_181 k
  refine wq_aload_n 0 rfl rfl dX10_init_0 ?_
  refine wq_objInit lk_X10_1 ob_i ob_c (Nat.le_of_ble_eq_true rfl) (zrF (by omega)) (zrL (by omega)) dX10_init_1 ?_
  refine wq_aload_n 0 rfl rfl dX10_init_4 ?_
  refine wq_new1 (m := 2) (by omega) cl_0 tb_0 ck_X10_7 in_X0 it_X0 (by decide +kernel) (zQ1 (by omega)) (zQ2 (by omega)) dX10_init_5 ?_
  refine wq_dup rfl dX10_init_8 ?_
  refine wq_bipush (z := 120) (zlit rfl) rfl dX10_init_9 ?_
  refine wq_callI (nE' := 3) (d' := d - 1) (Q' := fun v g => v = none ∧ g = wRow 2 (zz0)) (As := [vI 120]) 1 md_X0_init rfl rfl mi_X0_init lk_X10_11 rfl rfl (Nat.le_of_ble_eq_true rfl) (Nat.le_of_ble_eq_true rfl) (by omega) (zFit_rm (by omega) (by omega)) dX10_init_11 (ct_X0 (len := 120) (by omega) (by decide +kernel) (by decide +kernel) rfl (by decide) ⟨rfl, rfl⟩) (fun v g q _ => ?_)
  obtain ⟨rfl, rfl⟩ := q
  refine wq_st (st' := [vR 2, vR 1]) rfl ?_
  refine wq_putR (by omega) fk_X10_14 (zTn tT_1 (by decide) (by omega)) (Or.inr ⟨rfl, rfl, rfl⟩) (fun _ _ _ => rfl) (fun _ => rfl) (fun _ => rfl) dX10_init_14 ?_
  refine wq_aload_n 0 rfl rfl dX10_init_17 ?_
  refine wq_new1 (m := 4) (by omega) cl_0 tb_0 ck_X10_7 in_X0 it_X0 (by decide +kernel) (zQ1 (by omega)) (zQ2 (by omega)) dX10_init_18 ?_
  refine wq_dup rfl dX10_init_21 ?_
  refine wq_bipush (z := 32) (zlit rfl) rfl dX10_init_22 ?_
  refine wq_callI (nE' := 5) (d' := d - 1) (Q' := fun v g => v = none ∧ g = wRow 4 (sR (wRow 2 (zz0)) 1 0 2)) (As := [vI 32]) 1 md_X0_init rfl rfl mi_X0_init lk_X10_11 rfl rfl (Nat.le_of_ble_eq_true rfl) (Nat.le_of_ble_eq_true rfl) (by omega) (zFit_rm (by omega) (by omega)) dX10_init_24 (ct_X0 (len := 32) (by omega) (by decide +kernel) (by decide +kernel) rfl (by decide) ⟨rfl, rfl⟩) (fun v g q _ => ?_)
  obtain ⟨rfl, rfl⟩ := q
  refine wq_st (st' := [vR 4, vR 1]) rfl ?_
  refine wq_putR (by omega) fk_X10_18 (zTn tT_1 (by decide) (by omega)) (Or.inr ⟨rfl, rfl, rfl⟩) (fun _ _ _ => rfl) (fun _ => rfl) (fun _ => rfl) dX10_init_27 ?_
  refine wq_aload_n 0 rfl rfl dX10_init_30 ?_
  refine wq_new1 (m := 6) (by omega) cl_0 tb_0 ck_X10_7 in_X0 it_X0 (by decide +kernel) (zQ1 (by omega)) (zQ2 (by omega)) dX10_init_31 ?_
  refine wq_dup rfl dX10_init_34 ?_
  refine wq_sipush (z := 200) (zlit rfl) rfl dX10_init_35 ?_
  refine wq_callI (nE' := 7) (d' := d - 1) (Q' := fun v g => v = none ∧ g = wRow 6 (sR (wRow 4 (sR (wRow 2 (zz0)) 1 0 2)) 1 1 4)) (As := [vI 200]) 1 md_X0_init rfl rfl mi_X0_init lk_X10_11 rfl rfl (Nat.le_of_ble_eq_true rfl) (Nat.le_of_ble_eq_true rfl) (by omega) (zFit_rm (by omega) (by omega)) dX10_init_38 (ct_X0 (len := 200) (by omega) (by decide +kernel) (by decide +kernel) rfl (by decide) ⟨rfl, rfl⟩) (fun v g q _ => ?_)
  obtain ⟨rfl, rfl⟩ := q
  refine wq_st (st' := [vR 6, vR 1]) rfl ?_
  refine wq_putR (by omega) fk_X10_21 (zTn tT_1 (by decide) (by omega)) (Or.inr ⟨rfl, rfl, rfl⟩) (fun _ _ _ => rfl) (fun _ => rfl) (fun _ => rfl) dX10_init_41 ?_
  refine wq_aload_n 0 rfl rfl dX10_init_44 ?_
  refine wq_new1 (m := 8) (by omega) cl_2 tb_2 ck_X10_24 in_X2 it_X2 (by decide +kernel) (zQ1 (by omega)) (zQ2 (by omega)) dX10_init_45 ?_
  refine wq_dup rfl dX10_init_48 ?_
  refine wq_callI (nE' := 12) (d' := d - 1) (Q' := fun v g => v = none ∧ g = wDoc 8 (sR (wRow 6 (sR (wRow 4 (sR (wRow 2 (zz0)) 1 0 2)) 1 1 4)) 1 2 6)) (As := []) 0 md_X2_init rfl rfl mi_X2_init lk_X10_26 rfl rfl (Nat.le_of_ble_eq_true rfl) (Nat.le_of_ble_eq_true rfl) (by omega) (zFit_rm (by omega) (by omega)) dX10_init_49 (ct_X2 (by omega) (by decide +kernel) ⟨rfl, rfl⟩) (fun v g q _ => ?_)
  obtain ⟨rfl, rfl⟩ := q
  refine wq_st (st' := [vR 8, vR 1]) rfl ?_
  refine wq_putR (by omega) fk_X10_27 (zTn tT_1 (by decide) (by omega)) (Or.inr ⟨rfl, rfl, rfl⟩) (fun _ _ _ => rfl) (fun _ => rfl) (fun _ => rfl) dX10_init_52 ?_
  refine wq_aload_n 0 rfl rfl dX10_init_55 ?_
  refine wq_new1 (m := 13) (by omega) cl_4 tb_4 ck_X10_31 in_X4 it_X4 (by decide +kernel) (zQ1 (by omega)) (zQ2 (by omega)) dX10_init_56 ?_
  refine wq_dup rfl dX10_init_59 ?_
  refine wq_aload_n 0 rfl rfl dX10_init_60 ?_
  refine wq_getR (r := 8) fk_X10_27 (zTn tT_1 (by decide) (by omega)) (fun _ _ _ => rfl) (by decide +kernel) (by omega) dX10_init_61 ?_
  refine wq_callI (nE' := 79) (d' := d - 1) (Q' := fun v g => v = none ∧ g = wHist (sR (wDoc 8 (sR (wRow 6 (sR (wRow 4 (sR (wRow 2 (zz0)) 1 0 2)) 1 1 4)) 1 2 6)) 1 3 8)) (As := [vR 8]) 1 md_X4_init rfl rfl mi_X4_init lk_X10_33 rfl rfl (Nat.le_of_ble_eq_true rfl) (Nat.le_of_ble_eq_true rfl) (by omega) (zFit_rm (by omega) (by omega)) dX10_init_64 (ct_X4 (by omega) ⟨rfl, rfl⟩) (fun v g q _ => ?_)
  obtain ⟨rfl, rfl⟩ := q
  refine wq_st (st' := [vR 13, vR 1]) rfl ?_
  refine wq_putR (by omega) fk_X10_36 (zTn tT_1 (by decide) (by omega)) (Or.inr ⟨rfl, rfl, rfl⟩) (fun _ _ _ => rfl) (fun _ => rfl) (fun _ => rfl) dX10_init_67 ?_
  refine wq_aload_n 0 rfl rfl dX10_init_70 ?_
  refine wq_iconst (z := 4) (zlit rfl) dX10_init_71 ?_
  refine wq_newA1 (m := 80) (t := 3) (by omega) rfl (Nat.le_of_ble_eq_true rfl) (by decide) (by decide) rfl (fun s h => h.2.1.2.1) ck_X10_40 (by decide +kernel) (zQ1 (by omega)) (zQ2 (by omega)) dX10_init_72 ?_
  refine wq_putR (by omega) fk_X10_42 (zTn tT_1 (by decide) (by omega)) (Or.inr ⟨rfl, rfl, rfl⟩) (fun _ _ _ => rfl) (fun _ => rfl) (fun _ => rfl) dX10_init_75 ?_
  refine wq_iconst (z := 0) (zlit rfl) dX10_init_78 ?_
  refine wq_istore_n (ls' := [(0, vR 1), (1, vI 0)]) rfl (by decide) rfl dX10_init_79 ?_
  refine loop 4 0 eH1 rfl (by decide +kernel) ?_
  have e : wEs eH1 0 4 = wEl eH1 4 := wEs_l 4 0
  rw [e]
  exact fin

theorem ct_X11 (hd : 1 ≤ d) (k : Q none (wMd h)) : wp G d 343 369 M_X11_init 343 0 (zar 0 [vR 343]) [] h Q := by
  refine wq_aload_n 0 rfl rfl dX11_init_0 ?_
  refine wq_objInit lk_X11_1 ob_i ob_c (Nat.le_of_ble_eq_true rfl) (zrF (by omega)) (zrL (by omega)) dX11_init_1 ?_
  refine wq_aload_n 0 rfl rfl dX11_init_4 ?_
  refine wq_sipush (z := 213) (zlit rfl) rfl dX11_init_5 ?_
  refine wq_newI1 (m := 344) (by omega) rfl (Nat.le_of_ble_eq_true rfl) ar_I (by decide +kernel) (zQ1 (by omega)) (zQ2 (by omega)) dX11_init_8 ?_
  refine wq_putR (by omega) fk_X11_7 (zTn tT_343 (by decide) (by omega)) (Or.inr ⟨rfl, rfl, rfl⟩) (fun _ _ _ => rfl) (fun _ => rfl) (fun _ => rfl) dX11_init_10 ?_
  refine wq_aload_n 0 rfl rfl dX11_init_13 ?_
  refine wq_sipush (z := 2556) (zlit rfl) rfl dX11_init_14 ?_
  refine wq_newI1 (m := 345) (by omega) rfl (Nat.le_of_ble_eq_true rfl) ar_I (by decide +kernel) (zQ1 (by omega)) (zQ2 (by omega)) dX11_init_17 ?_
  refine wq_putR (by omega) fk_X11_13 (zTn tT_343 (by decide) (by omega)) (Or.inr ⟨rfl, rfl, rfl⟩) (fun _ _ _ => rfl) (fun _ => rfl) (fun _ => rfl) dX11_init_19 ?_
  refine wq_aload_n 0 rfl rfl dX11_init_22 ?_
  refine wq_sipush (z := 2556) (zlit rfl) rfl dX11_init_23 ?_
  refine wq_newI1 (m := 346) (by omega) rfl (Nat.le_of_ble_eq_true rfl) ar_I (by decide +kernel) (zQ1 (by omega)) (zQ2 (by omega)) dX11_init_26 ?_
  refine wq_putR (by omega) fk_X11_16 (zTn tT_343 (by decide) (by omega)) (Or.inr ⟨rfl, rfl, rfl⟩) (fun _ _ _ => rfl) (fun _ => rfl) (fun _ => rfl) dX11_init_28 ?_
  refine wq_aload_n 0 rfl rfl dX11_init_31 ?_
  refine wq_sipush (z := 213) (zlit rfl) rfl dX11_init_32 ?_
  refine wq_newI1 (m := 347) (by omega) rfl (Nat.le_of_ble_eq_true rfl) ar_I (by decide +kernel) (zQ1 (by omega)) (zQ2 (by omega)) dX11_init_35 ?_
  refine wq_putR (by omega) fk_X11_19 (zTn tT_343 (by decide) (by omega)) (Or.inr ⟨rfl, rfl, rfl⟩) (fun _ _ _ => rfl) (fun _ => rfl) (fun _ => rfl) dX11_init_37 ?_
  refine wq_aload_n 0 rfl rfl dX11_init_40 ?_
  refine wq_bipush (z := 32) (zlit rfl) rfl dX11_init_41 ?_
  refine wq_newI1 (m := 348) (by omega) rfl (Nat.le_of_ble_eq_true rfl) ar_I (by decide +kernel) (zQ1 (by omega)) (zQ2 (by omega)) dX11_init_43 ?_
  refine wq_putR (by omega) fk_X11_22 (zTn tT_343 (by decide) (by omega)) (Or.inr ⟨rfl, rfl, rfl⟩) (fun _ _ _ => rfl) (fun _ => rfl) (fun _ => rfl) dX11_init_45 ?_
  refine wq_aload_n 0 rfl rfl dX11_init_48 ?_
  refine wq_sipush (z := 200) (zlit rfl) rfl dX11_init_49 ?_
  refine wq_newI1 (m := 349) (by omega) rfl (Nat.le_of_ble_eq_true rfl) ar_I (by decide +kernel) (zQ1 (by omega)) (zQ2 (by omega)) dX11_init_52 ?_
  refine wq_putR (by omega) fk_X11_25 (zTn tT_343 (by decide) (by omega)) (Or.inr ⟨rfl, rfl, rfl⟩) (fun _ _ _ => rfl) (fun _ => rfl) (fun _ => rfl) dX11_init_54 ?_
  refine wq_aload_n 0 rfl rfl dX11_init_57 ?_
  refine wq_bipush (z := 120) (zlit rfl) rfl dX11_init_58 ?_
  refine wq_newI1 (m := 350) (by omega) rfl (Nat.le_of_ble_eq_true rfl) ar_I (by decide +kernel) (zQ1 (by omega)) (zQ2 (by omega)) dX11_init_60 ?_
  refine wq_putR (by omega) fk_X11_28 (zTn tT_343 (by decide) (by omega)) (Or.inr ⟨rfl, rfl, rfl⟩) (fun _ _ _ => rfl) (fun _ => rfl) (fun _ => rfl) dX11_init_62 ?_
  refine wq_aload_n 0 rfl rfl dX11_init_65 ?_
  refine wq_sipush (z := 1680) (zlit rfl) rfl dX11_init_66 ?_
  refine wq_newI1 (m := 351) (by omega) rfl (Nat.le_of_ble_eq_true rfl) ar_I (by decide +kernel) (zQ1 (by omega)) (zQ2 (by omega)) dX11_init_69 ?_
  refine wq_putR (by omega) fk_X11_31 (zTn tT_343 (by decide) (by omega)) (Or.inr ⟨rfl, rfl, rfl⟩) (fun _ _ _ => rfl) (fun _ => rfl) (fun _ => rfl) dX11_init_71 ?_
  refine wq_aload_n 0 rfl rfl dX11_init_74 ?_
  refine wq_iconst (z := 5) (zlit rfl) dX11_init_75 ?_
  refine wq_newI1 (m := 352) (by omega) rfl (Nat.le_of_ble_eq_true rfl) ar_I (by decide +kernel) (zQ1 (by omega)) (zQ2 (by omega)) dX11_init_76 ?_
  refine wq_putR (by omega) fk_X11_34 (zTn tT_343 (by decide) (by omega)) (Or.inr ⟨rfl, rfl, rfl⟩) (fun _ _ _ => rfl) (fun _ => rfl) (fun _ => rfl) dX11_init_78 ?_
  refine wq_aload_n 0 rfl rfl dX11_init_81 ?_
  refine wq_bipush (z := 32) (zlit rfl) rfl dX11_init_82 ?_
  refine wq_newI1 (m := 353) (by omega) rfl (Nat.le_of_ble_eq_true rfl) ar_I (by decide +kernel) (zQ1 (by omega)) (zQ2 (by omega)) dX11_init_84 ?_
  refine wq_putR (by omega) fk_X11_37 (zTn tT_343 (by decide) (by omega)) (Or.inr ⟨rfl, rfl, rfl⟩) (fun _ _ _ => rfl) (fun _ => rfl) (fun _ => rfl) dX11_init_86 ?_
  refine wq_aload_n 0 rfl rfl dX11_init_89 ?_
  refine wq_bipush (z := 60) (zlit rfl) rfl dX11_init_90 ?_
  refine wq_newI1 (m := 354) (by omega) rfl (Nat.le_of_ble_eq_true rfl) ar_I (by decide +kernel) (zQ1 (by omega)) (zQ2 (by omega)) dX11_init_92 ?_
  refine wq_putR (by omega) fk_X11_40 (zTn tT_343 (by decide) (by omega)) (Or.inr ⟨rfl, rfl, rfl⟩) (fun _ _ _ => rfl) (fun _ => rfl) (fun _ => rfl) dX11_init_94 ?_
  refine wq_aload_n 0 rfl rfl dX11_init_97 ?_
  refine wq_bipush (z := 60) (zlit rfl) rfl dX11_init_98 ?_
  refine wq_newI1 (m := 355) (by omega) rfl (Nat.le_of_ble_eq_true rfl) ar_I (by decide +kernel) (zQ1 (by omega)) (zQ2 (by omega)) dX11_init_100 ?_
  refine wq_putR (by omega) fk_X11_43 (zTn tT_343 (by decide) (by omega)) (Or.inr ⟨rfl, rfl, rfl⟩) (fun _ _ _ => rfl) (fun _ => rfl) (fun _ => rfl) dX11_init_102 ?_
  refine wq_aload_n 0 rfl rfl dX11_init_105 ?_
  refine wq_bipush (z := 60) (zlit rfl) rfl dX11_init_106 ?_
  refine wq_newI1 (m := 356) (by omega) rfl (Nat.le_of_ble_eq_true rfl) ar_I (by decide +kernel) (zQ1 (by omega)) (zQ2 (by omega)) dX11_init_108 ?_
  refine wq_putR (by omega) fk_X11_46 (zTn tT_343 (by decide) (by omega)) (Or.inr ⟨rfl, rfl, rfl⟩) (fun _ _ _ => rfl) (fun _ => rfl) (fun _ => rfl) dX11_init_110 ?_
  refine wq_aload_n 0 rfl rfl dX11_init_113 ?_
  refine wq_bipush (z := 60) (zlit rfl) rfl dX11_init_114 ?_
  refine wq_newI1 (m := 357) (by omega) rfl (Nat.le_of_ble_eq_true rfl) ar_I (by decide +kernel) (zQ1 (by omega)) (zQ2 (by omega)) dX11_init_116 ?_
  refine wq_putR (by omega) fk_X11_49 (zTn tT_343 (by decide) (by omega)) (Or.inr ⟨rfl, rfl, rfl⟩) (fun _ _ _ => rfl) (fun _ => rfl) (fun _ => rfl) dX11_init_118 ?_
  refine wq_aload_n 0 rfl rfl dX11_init_121 ?_
  refine wq_bipush (z := 60) (zlit rfl) rfl dX11_init_122 ?_
  refine wq_newI1 (m := 358) (by omega) rfl (Nat.le_of_ble_eq_true rfl) ar_I (by decide +kernel) (zQ1 (by omega)) (zQ2 (by omega)) dX11_init_124 ?_
  refine wq_putR (by omega) fk_X11_52 (zTn tT_343 (by decide) (by omega)) (Or.inr ⟨rfl, rfl, rfl⟩) (fun _ _ _ => rfl) (fun _ => rfl) (fun _ => rfl) dX11_init_126 ?_
  refine wq_aload_n 0 rfl rfl dX11_init_129 ?_
  refine wq_bipush (z := 60) (zlit rfl) rfl dX11_init_130 ?_
  refine wq_newI1 (m := 359) (by omega) rfl (Nat.le_of_ble_eq_true rfl) ar_I (by decide +kernel) (zQ1 (by omega)) (zQ2 (by omega)) dX11_init_132 ?_
  refine wq_putR (by omega) fk_X11_55 (zTn tT_343 (by decide) (by omega)) (Or.inr ⟨rfl, rfl, rfl⟩) (fun _ _ _ => rfl) (fun _ => rfl) (fun _ => rfl) dX11_init_134 ?_
  refine wq_aload_n 0 rfl rfl dX11_init_137 ?_
  refine wq_bipush (z := 60) (zlit rfl) rfl dX11_init_138 ?_
  refine wq_newI1 (m := 360) (by omega) rfl (Nat.le_of_ble_eq_true rfl) ar_I (by decide +kernel) (zQ1 (by omega)) (zQ2 (by omega)) dX11_init_140 ?_
  refine wq_putR (by omega) fk_X11_58 (zTn tT_343 (by decide) (by omega)) (Or.inr ⟨rfl, rfl, rfl⟩) (fun _ _ _ => rfl) (fun _ => rfl) (fun _ => rfl) dX11_init_142 ?_
  refine wq_aload_n 0 rfl rfl dX11_init_145 ?_
  refine wq_sipush (z := 240) (zlit rfl) rfl dX11_init_146 ?_
  refine wq_newI1 (m := 361) (by omega) rfl (Nat.le_of_ble_eq_true rfl) ar_I (by decide +kernel) (zQ1 (by omega)) (zQ2 (by omega)) dX11_init_149 ?_
  refine wq_putR (by omega) fk_X11_61 (zTn tT_343 (by decide) (by omega)) (Or.inr ⟨rfl, rfl, rfl⟩) (fun _ _ _ => rfl) (fun _ => rfl) (fun _ => rfl) dX11_init_151 ?_
  refine wq_aload_n 0 rfl rfl dX11_init_154 ?_
  refine wq_bipush (z := 24) (zlit rfl) rfl dX11_init_155 ?_
  refine wq_newL1 (m := 362) (by omega) rfl (Nat.le_of_ble_eq_true rfl) ar_L (by decide +kernel) (zQ1 (by omega)) (zQ2 (by omega)) dX11_init_157 ?_
  refine wq_putR (by omega) fk_X11_64 (zTn tT_343 (by decide) (by omega)) (Or.inr ⟨rfl, rfl, rfl⟩) (fun _ _ _ => rfl) (fun _ => rfl) (fun _ => rfl) dX11_init_159 ?_
  refine wq_aload_n 0 rfl rfl dX11_init_162 ?_
  refine wq_bipush (z := 24) (zlit rfl) rfl dX11_init_163 ?_
  refine wq_newI1 (m := 363) (by omega) rfl (Nat.le_of_ble_eq_true rfl) ar_I (by decide +kernel) (zQ1 (by omega)) (zQ2 (by omega)) dX11_init_165 ?_
  refine wq_putR (by omega) fk_X11_68 (zTn tT_343 (by decide) (by omega)) (Or.inr ⟨rfl, rfl, rfl⟩) (fun _ _ _ => rfl) (fun _ => rfl) (fun _ => rfl) dX11_init_167 ?_
  refine wq_aload_n 0 rfl rfl dX11_init_170 ?_
  refine wq_bipush (z := 24) (zlit rfl) rfl dX11_init_171 ?_
  refine wq_newI1 (m := 364) (by omega) rfl (Nat.le_of_ble_eq_true rfl) ar_I (by decide +kernel) (zQ1 (by omega)) (zQ2 (by omega)) dX11_init_173 ?_
  refine wq_putR (by omega) fk_X11_71 (zTn tT_343 (by decide) (by omega)) (Or.inr ⟨rfl, rfl, rfl⟩) (fun _ _ _ => rfl) (fun _ => rfl) (fun _ => rfl) dX11_init_175 ?_
  refine wq_aload_n 0 rfl rfl dX11_init_178 ?_
  refine wq_iconst (z := 4) (zlit rfl) dX11_init_179 ?_
  refine wq_newI1 (m := 365) (by omega) rfl (Nat.le_of_ble_eq_true rfl) ar_I (by decide +kernel) (zQ1 (by omega)) (zQ2 (by omega)) dX11_init_180 ?_
  refine wq_putR (by omega) fk_X11_74 (zTn tT_343 (by decide) (by omega)) (Or.inr ⟨rfl, rfl, rfl⟩) (fun _ _ _ => rfl) (fun _ => rfl) (fun _ => rfl) dX11_init_182 ?_
  refine wq_aload_n 0 rfl rfl dX11_init_185 ?_
  refine wq_iconst (z := 4) (zlit rfl) dX11_init_186 ?_
  refine wq_newI1 (m := 366) (by omega) rfl (Nat.le_of_ble_eq_true rfl) ar_I (by decide +kernel) (zQ1 (by omega)) (zQ2 (by omega)) dX11_init_187 ?_
  refine wq_putR (by omega) fk_X11_77 (zTn tT_343 (by decide) (by omega)) (Or.inr ⟨rfl, rfl, rfl⟩) (fun _ _ _ => rfl) (fun _ => rfl) (fun _ => rfl) dX11_init_189 ?_
  refine wq_aload_n 0 rfl rfl dX11_init_192 ?_
  refine wq_iconst (z := 4) (zlit rfl) dX11_init_193 ?_
  refine wq_newI1 (m := 367) (by omega) rfl (Nat.le_of_ble_eq_true rfl) ar_I (by decide +kernel) (zQ1 (by omega)) (zQ2 (by omega)) dX11_init_194 ?_
  refine wq_putR (by omega) fk_X11_80 (zTn tT_343 (by decide) (by omega)) (Or.inr ⟨rfl, rfl, rfl⟩) (fun _ _ _ => rfl) (fun _ => rfl) (fun _ => rfl) dX11_init_196 ?_
  refine wq_aload_n 0 rfl rfl dX11_init_199 ?_
  refine wq_iconst (z := 4) (zlit rfl) dX11_init_200 ?_
  refine wq_newI1 (m := 368) (by omega) rfl (Nat.le_of_ble_eq_true rfl) ar_I (by decide +kernel) (zQ1 (by omega)) (zQ2 (by omega)) dX11_init_201 ?_
  refine wq_putR (by omega) fk_X11_83 (zTn tT_343 (by decide) (by omega)) (Or.inr ⟨rfl, rfl, rfl⟩) (fun _ _ _ => rfl) (fun _ => rfl) (fun _ => rfl) dX11_init_203 ?_
  refine wq_aload_n 0 rfl rfl dX11_init_206 ?_
  refine wq_sipush (z := 201) (zlit rfl) rfl dX11_init_207 ?_
  refine wq_newI1 (m := 369) (by omega) rfl (Nat.le_of_ble_eq_true rfl) ar_I (by decide +kernel) (zQ1 (by omega)) (zQ2 (by omega)) dX11_init_210 ?_
  refine wq_putR (by omega) fk_X11_86 (zTn tT_343 (by decide) (by omega)) (Or.inr ⟨rfl, rfl, rfl⟩) (fun _ _ _ => rfl) (fun _ => rfl) (fun _ => rfl) dX11_init_212 ?_
  exact wp_vret rfl dX11_init_215 k
end CTOR2
