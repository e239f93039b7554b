/-! the constructors -/
theorem dX0_init_0 : decode cX0_init 0 = .ok (.aload_n 0, 1) := by decide +kernel
theorem dX0_init_1 : decode cX0_init 1 = .ok (.invokespecial 3, 3) := by decide +kernel
theorem dX0_init_4 : decode cX0_init 4 = .ok (.aload_n 0, 1) := by decide +kernel
theorem dX0_init_5 : decode cX0_init 5 = .ok (.iload_n 1, 1) := by decide +kernel
theorem dX0_init_6 : decode cX0_init 6 = .ok (.iconst 0, 1) := by decide +kernel
theorem dX0_init_7 : decode cX0_init 7 = .ok (.invokestatic 9, 3) := by decide +kernel
theorem dX0_init_10 : decode cX0_init 10 = .ok (.newarray .int, 2) := by decide +kernel
theorem dX0_init_12 : decode cX0_init 12 = .ok (.putfield 15, 3) := by decide +kernel
theorem dX0_init_15 : decode cX0_init 15 = .ok (.aload_n 0, 1) := by decide +kernel
theorem dX0_init_16 : decode cX0_init 16 = .ok (.iconst 0, 1) := by decide +kernel
theorem dX0_init_17 : decode cX0_init 17 = .ok (.putfield 21, 3) := by decide +kernel
theorem dX0_init_20 : decode cX0_init 20 = .ok (.return_, 1) := by decide +kernel
theorem dX2_init_0 : decode cX2_init 0 = .ok (.aload_n 0, 1) := by decide +kernel
theorem dX2_init_1 : decode cX2_init 1 = .ok (.invokespecial 3, 3) := by decide +kernel
theorem dX2_init_4 : decode cX2_init 4 = .ok (.aload_n 0, 1) := by decide +kernel
theorem dX2_init_5 : decode cX2_init 5 = .ok (.new 9, 3) := by decide +kernel
theorem dX2_init_8 : decode cX2_init 8 = .ok (.dup, 1) := by decide +kernel
theorem dX2_init_9 : decode cX2_init 9 = .ok (.sipush 200, 3) := by decide +kernel
theorem dX2_init_12 : decode cX2_init 12 = .ok (.invokespecial 11, 3) := by decide +kernel
theorem dX2_init_15 : decode cX2_init 15 = .ok (.putfield 14, 3) := by decide +kernel
theorem dX2_init_18 : decode cX2_init 18 = .ok (.aload_n 0, 1) := by decide +kernel
theorem dX2_init_19 : decode cX2_init 19 = .ok (.iconst 4, 1) := by decide +kernel
theorem dX2_init_20 : decode cX2_init 20 = .ok (.newarray .int, 2) := by decide +kernel
theorem dX2_init_22 : decode cX2_init 22 = .ok (.putfield 20, 3) := by decide +kernel
theorem dX2_init_25 : decode cX2_init 25 = .ok (.aload_n 0, 1) := by decide +kernel
theorem dX2_init_26 : decode cX2_init 26 = .ok (.iconst 4, 1) := by decide +kernel
theorem dX2_init_27 : decode cX2_init 27 = .ok (.newarray .int, 2) := by decide +kernel
theorem dX2_init_29 : decode cX2_init 29 = .ok (.putfield 24, 3) := by decide +kernel
theorem dX2_init_32 : decode cX2_init 32 = .ok (.iconst 0, 1) := by decide +kernel
theorem dX2_init_33 : decode cX2_init 33 = .ok (.istore_n 1, 1) := by decide +kernel
theorem dX2_init_34 : decode cX2_init 34 = .ok (.iload_n 1, 1) := by decide +kernel
theorem dX2_init_35 : decode cX2_init 35 = .ok (.iconst 4, 1) := by decide +kernel
theorem dX2_init_36 : decode cX2_init 36 = .ok (.if_icmp .ge 16, 3) := by decide +kernel
theorem dX2_init_39 : decode cX2_init 39 = .ok (.aload_n 0, 1) := by decide +kernel
theorem dX2_init_40 : decode cX2_init 40 = .ok (.getfield 20, 3) := by decide +kernel
theorem dX2_init_43 : decode cX2_init 43 = .ok (.iload_n 1, 1) := by decide +kernel
theorem dX2_init_44 : decode cX2_init 44 = .ok (.iconst (-1), 1) := by decide +kernel
theorem dX2_init_45 : decode cX2_init 45 = .ok (.iastore, 1) := by decide +kernel
theorem dX2_init_46 : decode cX2_init 46 = .ok (.iinc 1 1, 3) := by decide +kernel
theorem dX2_init_49 : decode cX2_init 49 = .ok (.goto (-15), 3) := by decide +kernel
theorem dX2_init_52 : decode cX2_init 52 = .ok (.return_, 1) := by decide +kernel
theorem dX5_init_0 : decode cX5_init 0 = .ok (.aload_n 0, 1) := by decide +kernel
theorem dX5_init_1 : decode cX5_init 1 = .ok (.invokespecial 1, 3) := by decide +kernel
theorem dX5_init_4 : decode cX5_init 4 = .ok (.return_, 1) := by decide +kernel
theorem dX3_init_0 : decode cX3_init 0 = .ok (.aload_n 0, 1) := by decide +kernel
theorem dX3_init_1 : decode cX3_init 1 = .ok (.invokespecial 3, 3) := by decide +kernel
theorem dX3_init_4 : decode cX3_init 4 = .ok (.aload_n 0, 1) := by decide +kernel
theorem dX3_init_5 : decode cX3_init 5 = .ok (.iconst 4, 1) := by decide +kernel
theorem dX3_init_6 : decode cX3_init 6 = .ok (.newarray .int, 2) := by decide +kernel
theorem dX3_init_8 : decode cX3_init 8 = .ok (.putfield 11, 3) := by decide +kernel
theorem dX3_init_11 : decode cX3_init 11 = .ok (.return_, 1) := by decide +kernel
theorem dX8_init_0 : decode cX8_init 0 = .ok (.aload_n 0, 1) := by decide +kernel
theorem dX8_init_1 : decode cX8_init 1 = .ok (.invokespecial 1, 3) := by decide +kernel
theorem dX8_init_4 : decode cX8_init 4 = .ok (.aload_n 0, 1) := by decide +kernel
theorem dX8_init_5 : decode cX8_init 5 = .ok (.bipush 24, 2) := by decide +kernel
theorem dX8_init_7 : decode cX8_init 7 = .ok (.anewarray 9, 3) := by decide +kernel
theorem dX8_init_10 : decode cX8_init 10 = .ok (.putfield 11, 3) := by decide +kernel
theorem dX8_init_13 : decode cX8_init 13 = .ok (.iconst 0, 1) := by decide +kernel
theorem dX8_init_14 : decode cX8_init 14 = .ok (.istore_n 1, 1) := by decide +kernel
theorem dX8_init_15 : decode cX8_init 15 = .ok (.iload_n 1, 1) := by decide +kernel
theorem dX8_init_16 : decode cX8_init 16 = .ok (.bipush 24, 2) := by decide +kernel
theorem dX8_init_18 : decode cX8_init 18 = .ok (.if_icmp .ge 22, 3) := by decide +kernel
theorem dX8_init_21 : decode cX8_init 21 = .ok (.aload_n 0, 1) := by decide +kernel
theorem dX8_init_22 : decode cX8_init 22 = .ok (.getfield 11, 3) := by decide +kernel
theorem dX8_init_25 : decode cX8_init 25 = .ok (.iload_n 1, 1) := by decide +kernel
theorem dX8_init_26 : decode cX8_init 26 = .ok (.new 9, 3) := by decide +kernel
theorem dX8_init_29 : decode cX8_init 29 = .ok (.dup, 1) := by decide +kernel
theorem dX8_init_30 : decode cX8_init 30 = .ok (.invokespecial 15, 3) := by decide +kernel
theorem dX8_init_33 : decode cX8_init 33 = .ok (.aastore, 1) := by decide +kernel
theorem dX8_init_34 : decode cX8_init 34 = .ok (.iinc 1 1, 3) := by decide +kernel
theorem dX8_init_37 : decode cX8_init 37 = .ok (.goto (-22), 3) := by decide +kernel
theorem dX8_init_40 : decode cX8_init 40 = .ok (.aload_n 0, 1) := by decide +kernel
theorem dX8_init_41 : decode cX8_init 41 = .ok (.iconst 0, 1) := by decide +kernel
theorem dX8_init_42 : decode cX8_init 42 = .ok (.putfield 16, 3) := by decide +kernel
theorem dX8_init_45 : decode cX8_init 45 = .ok (.return_, 1) := by decide +kernel
theorem dX9_init_0 : decode cX9_init 0 = .ok (.aload_n 0, 1) := by decide +kernel
theorem dX9_init_1 : decode cX9_init 1 = .ok (.invokespecial 3, 3) := by decide +kernel
theorem dX9_init_4 : decode cX9_init 4 = .ok (.aload_n 0, 1) := by decide +kernel
theorem dX9_init_5 : decode cX9_init 5 = .ok (.aload_n 1, 1) := by decide +kernel
theorem dX9_init_6 : decode cX9_init 6 = .ok (.putfield 9, 3) := by decide +kernel
theorem dX9_init_9 : decode cX9_init 9 = .ok (.aload_n 0, 1) := by decide +kernel
theorem dX9_init_10 : decode cX9_init 10 = .ok (.aload_n 2, 1) := by decide +kernel
theorem dX9_init_11 : decode cX9_init 11 = .ok (.putfield 15, 3) := by decide +kernel
theorem dX9_init_14 : decode cX9_init 14 = .ok (.aload_n 0, 1) := by decide +kernel
theorem dX9_init_15 : decode cX9_init 15 = .ok (.iconst 0, 1) := by decide +kernel
theorem dX9_init_16 : decode cX9_init 16 = .ok (.putfield 19, 3) := by decide +kernel
theorem dX9_init_19 : decode cX9_init 19 = .ok (.aload_n 0, 1) := by decide +kernel
theorem dX9_init_20 : decode cX9_init 20 = .ok (.iconst (-1), 1) := by decide +kernel
theorem dX9_init_21 : decode cX9_init 21 = .ok (.putfield 25, 3) := by decide +kernel
theorem dX9_init_24 : decode cX9_init 24 = .ok (.aload_n 0, 1) := by decide +kernel
theorem dX9_init_25 : decode cX9_init 25 = .ok (.sipush (-1009), 3) := by decide +kernel
theorem dX9_init_28 : decode cX9_init 28 = .ok (.putfield 28, 3) := by decide +kernel
theorem dX9_init_31 : decode cX9_init 31 = .ok (.return_, 1) := by decide +kernel
theorem dX7_init_0 : decode cX7_init 0 = .ok (.aload_n 0, 1) := by decide +kernel
theorem dX7_init_1 : decode cX7_init 1 = .ok (.invokespecial 3, 3) := by decide +kernel
theorem dX7_init_4 : decode cX7_init 4 = .ok (.aload_n 0, 1) := by decide +kernel
theorem dX7_init_5 : decode cX7_init 5 = .ok (.bipush 16, 2) := by decide +kernel
theorem dX7_init_7 : decode cX7_init 7 = .ok (.newarray .int, 2) := by decide +kernel
theorem dX7_init_9 : decode cX7_init 9 = .ok (.putfield 11, 3) := by decide +kernel
theorem dX7_init_12 : decode cX7_init 12 = .ok (.aload_n 0, 1) := by decide +kernel
theorem dX7_init_13 : decode cX7_init 13 = .ok (.bipush 16, 2) := by decide +kernel
theorem dX7_init_15 : decode cX7_init 15 = .ok (.newarray .int, 2) := by decide +kernel
theorem dX7_init_17 : decode cX7_init 17 = .ok (.putfield 15, 3) := by decide +kernel
theorem dX7_init_20 : decode cX7_init 20 = .ok (.aload_n 0, 1) := by decide +kernel
theorem dX7_init_21 : decode cX7_init 21 = .ok (.iconst 0, 1) := by decide +kernel
theorem dX7_init_22 : decode cX7_init 22 = .ok (.putfield 18, 3) := by decide +kernel
theorem dX7_init_25 : decode cX7_init 25 = .ok (.return_, 1) := by decide +kernel
theorem dX6_init_0 : decode cX6_init 0 = .ok (.aload_n 0, 1) := by decide +kernel
theorem dX6_init_1 : decode cX6_init 1 = .ok (.invokespecial 3, 3) := by decide +kernel
theorem dX6_init_4 : decode cX6_init 4 = .ok (.aload_n 0, 1) := by decide +kernel
theorem dX6_init_5 : decode cX6_init 5 = .ok (.bipush 60, 2) := by decide +kernel
theorem dX6_init_7 : decode cX6_init 7 = .ok (.anewarray 11, 3) := by decide +kernel
theorem dX6_init_10 : decode cX6_init 10 = .ok (.putfield 13, 3) := by decide +kernel
theorem dX6_init_13 : decode cX6_init 13 = .ok (.iconst 0, 1) := by decide +kernel
theorem dX6_init_14 : decode cX6_init 14 = .ok (.istore_n 3, 1) := by decide +kernel
theorem dX6_init_15 : decode cX6_init 15 = .ok (.iload_n 3, 1) := by decide +kernel
theorem dX6_init_16 : decode cX6_init 16 = .ok (.bipush 60, 2) := by decide +kernel
theorem dX6_init_18 : decode cX6_init 18 = .ok (.if_icmp .ge 22, 3) := by decide +kernel
theorem dX6_init_21 : decode cX6_init 21 = .ok (.aload_n 0, 1) := by decide +kernel
theorem dX6_init_22 : decode cX6_init 22 = .ok (.getfield 13, 3) := by decide +kernel
theorem dX6_init_25 : decode cX6_init 25 = .ok (.iload_n 3, 1) := by decide +kernel
theorem dX6_init_26 : decode cX6_init 26 = .ok (.new 11, 3) := by decide +kernel
theorem dX6_init_29 : decode cX6_init 29 = .ok (.dup, 1) := by decide +kernel
theorem dX6_init_30 : decode cX6_init 30 = .ok (.invokespecial 17, 3) := by decide +kernel
theorem dX6_init_33 : decode cX6_init 33 = .ok (.aastore, 1) := by decide +kernel
theorem dX6_init_34 : decode cX6_init 34 = .ok (.iinc 3 1, 3) := by decide +kernel
theorem dX6_init_37 : decode cX6_init 37 = .ok (.goto (-22), 3) := by decide +kernel
theorem dX6_init_40 : decode cX6_init 40 = .ok (.aload_n 0, 1) := by decide +kernel
theorem dX6_init_41 : decode cX6_init 41 = .ok (.aload_n 2, 1) := by decide +kernel
theorem dX6_init_42 : decode cX6_init 42 = .ok (.putfield 18, 3) := by decide +kernel
theorem dX6_init_45 : decode cX6_init 45 = .ok (.aload_n 0, 1) := by decide +kernel
theorem dX6_init_46 : decode cX6_init 46 = .ok (.aload_n 1, 1) := by decide +kernel
theorem dX6_init_47 : decode cX6_init 47 = .ok (.putfield 22, 3) := by decide +kernel
theorem dX6_init_50 : decode cX6_init 50 = .ok (.aload_n 0, 1) := by decide +kernel
theorem dX6_init_51 : decode cX6_init 51 = .ok (.iconst 4, 1) := by decide +kernel
theorem dX6_init_52 : decode cX6_init 52 = .ok (.newarray .int, 2) := by decide +kernel
theorem dX6_init_54 : decode cX6_init 54 = .ok (.putfield 28, 3) := by decide +kernel
theorem dX6_init_57 : decode cX6_init 57 = .ok (.aload_n 0, 1) := by decide +kernel
theorem dX6_init_58 : decode cX6_init 58 = .ok (.bipush 24, 2) := by decide +kernel
theorem dX6_init_60 : decode cX6_init 60 = .ok (.newarray .long, 2) := by decide +kernel
theorem dX6_init_62 : decode cX6_init 62 = .ok (.putfield 32, 3) := by decide +kernel
theorem dX6_init_65 : decode cX6_init 65 = .ok (.aload_n 0, 1) := by decide +kernel
theorem dX6_init_66 : decode cX6_init 66 = .ok (.bipush 24, 2) := by decide +kernel
theorem dX6_init_68 : decode cX6_init 68 = .ok (.newarray .int, 2) := by decide +kernel
theorem dX6_init_70 : decode cX6_init 70 = .ok (.putfield 36, 3) := by decide +kernel
theorem dX6_init_73 : decode cX6_init 73 = .ok (.aload_n 0, 1) := by decide +kernel
theorem dX6_init_74 : decode cX6_init 74 = .ok (.bipush 24, 2) := by decide +kernel
theorem dX6_init_76 : decode cX6_init 76 = .ok (.newarray .int, 2) := by decide +kernel
theorem dX6_init_78 : decode cX6_init 78 = .ok (.putfield 39, 3) := by decide +kernel
theorem dX6_init_81 : decode cX6_init 81 = .ok (.aload_n 0, 1) := by decide +kernel
theorem dX6_init_82 : decode cX6_init 82 = .ok (.iconst 4, 1) := by decide +kernel
theorem dX6_init_83 : decode cX6_init 83 = .ok (.newarray .int, 2) := by decide +kernel
theorem dX6_init_85 : decode cX6_init 85 = .ok (.putfield 42, 3) := by decide +kernel
theorem dX6_init_88 : decode cX6_init 88 = .ok (.return_, 1) := by decide +kernel
theorem dX4_init_0 : decode cX4_init 0 = .ok (.aload_n 0, 1) := by decide +kernel
theorem dX4_init_1 : decode cX4_init 1 = .ok (.invokespecial 1, 3) := by decide +kernel
theorem dX4_init_4 : decode cX4_init 4 = .ok (.aload_n 0, 1) := by decide +kernel
theorem dX4_init_5 : decode cX4_init 5 = .ok (.aload_n 1, 1) := by decide +kernel
theorem dX4_init_6 : decode cX4_init 6 = .ok (.putfield 7, 3) := by decide +kernel
theorem dX4_init_9 : decode cX4_init 9 = .ok (.aload_n 0, 1) := by decide +kernel
theorem dX4_init_10 : decode cX4_init 10 = .ok (.bipush 13, 2) := by decide +kernel
theorem dX4_init_12 : decode cX4_init 12 = .ok (.anewarray 13, 3) := by decide +kernel
theorem dX4_init_15 : decode cX4_init 15 = .ok (.putfield 15, 3) := by decide +kernel
theorem dX4_init_18 : decode cX4_init 18 = .ok (.iconst 0, 1) := by decide +kernel
theorem dX4_init_19 : decode cX4_init 19 = .ok (.istore_n 2, 1) := by decide +kernel
theorem dX4_init_20 : decode cX4_init 20 = .ok (.iload_n 2, 1) := by decide +kernel
theorem dX4_init_21 : decode cX4_init 21 = .ok (.bipush 12, 2) := by decide +kernel
theorem dX4_init_23 : decode cX4_init 23 = .ok (.if_icmp .gt 22, 3) := by decide +kernel
theorem dX4_init_26 : decode cX4_init 26 = .ok (.aload_n 0, 1) := by decide +kernel
theorem dX4_init_27 : decode cX4_init 27 = .ok (.getfield 15, 3) := by decide +kernel
theorem dX4_init_30 : decode cX4_init 30 = .ok (.iload_n 2, 1) := by decide +kernel
theorem dX4_init_31 : decode cX4_init 31 = .ok (.new 13, 3) := by decide +kernel
theorem dX4_init_34 : decode cX4_init 34 = .ok (.dup, 1) := by decide +kernel
theorem dX4_init_35 : decode cX4_init 35 = .ok (.invokespecial 19, 3) := by decide +kernel
theorem dX4_init_38 : decode cX4_init 38 = .ok (.aastore, 1) := by decide +kernel
theorem dX4_init_39 : decode cX4_init 39 = .ok (.iinc 2 1, 3) := by decide +kernel
theorem dX4_init_42 : decode cX4_init 42 = .ok (.goto (-22), 3) := by decide +kernel
theorem dX4_init_45 : decode cX4_init 45 = .ok (.aload_n 0, 1) := by decide +kernel
theorem dX4_init_46 : decode cX4_init 46 = .ok (.iconst 0, 1) := by decide +kernel
theorem dX4_init_47 : decode cX4_init 47 = .ok (.putfield 20, 3) := by decide +kernel
theorem dX4_init_50 : decode cX4_init 50 = .ok (.aload_n 0, 1) := by decide +kernel
theorem dX4_init_51 : decode cX4_init 51 = .ok (.iconst 0, 1) := by decide +kernel
theorem dX4_init_52 : decode cX4_init 52 = .ok (.putfield 24, 3) := by decide +kernel
theorem dX4_init_55 : decode cX4_init 55 = .ok (.return_, 1) := by decide +kernel
theorem zTA {a : Nat} {t : Nat × Nat} (h : zT 369 a = t) (h9 : t.1 ≠ 99) : zTAU a = t := (zT_at h h9).2.2
theorem zTn {n a : Nat} {t : Nat × Nat} (h : zT 369 a = t) (h9 : t.1 ≠ 99) (hn : a ≤ n) : zT n a = t := by
  obtain ⟨q1, _, q3⟩ := zT_at h h9
  unfold zT
  rw [if_pos ⟨q1, hn⟩]
  exact q3
theorem zR1 {d n0 nE n : Nat} (h : n + 1 ≤ nE) : n + 1 - n0 ≤ (zRm d n0 nE).cells := by show n + 1 - n0 ≤ nE - n0; omega
theorem zR2 {d n0 nE n : Nat} (h : n + 1 ≤ nE) : zSL (n + 1) - zSL n0 ≤ (zRm d n0 nE).slots := by
  have := zSL_le h
  show zSL (n + 1) - zSL n0 ≤ zSL nE - zSL n0
  omega
theorem zQ1 {d n0 nE m : Nat} (h : m ≤ nE) : m - n0 ≤ (zRm d n0 nE).cells := by show m - n0 ≤ nE - n0; omega
theorem zQ2 {d n0 nE m : Nat} (h : m ≤ nE) : zSL m - zSL n0 ≤ (zRm d n0 nE).slots := by
  have := zSL_le h
  show zSL m - zSL n0 ≤ zSL nE - zSL n0
  omega
section NEW1
variable {G : zG} {R : Room} {Z : List Frame → Array Value → State → State → Prop} {X : Array Value → State → Prop} {M : zM} {n0 n pc m : Nat} {ls : zLs} {st : List zV} {h : zHp}
theorem wq_new1 {c idx : Nat} {C : String} {T : u_T} (em : n + 1 = m) (hcl : zCl c C T) (hty : ∀ j, j < zN c → zTyb (zty c j) = true) (hlk : Cond.classLink M.1.cls idx C ∈ zgw) (hins : Cond.instantiable C (zN c) ∈ zgw) (hini : Cond.initialized C ∈ zgw) (ht : zTAU m = (100 + c, zN c)) (hR1 : m - n0 ≤ R.cells) (hR2 : zSL m - zSL n0 ≤ R.slots) (d : decode M.2.1 pc = .ok (.new idx, 3)) (k : wq G R Z X M n0 m (pc + 3) ls (vR m :: st) h) : wq G R Z X M n0 n pc ls st h := by
  subst em
  exact wq_new hcl hty hlk hins hini ht hR1 hR2 d k
theorem wq_newI1 {z : Int} {len : Nat} (em : n + 1 = m) (hz9 : z = len) (hb : len * 4 ≤ 536870912) (hac : Cond.arrayClass .int ∈ zgw) (ht : zTAU m = (0, len)) (hR1 : m - n0 ≤ R.cells) (hR2 : zSL m - zSL n0 ≤ R.slots) (d : decode M.2.1 pc = .ok (.newarray .int, 2)) (k : wq G R Z X M n0 m (pc + 2) ls (vR m :: st) h) : wq G R Z X M n0 n pc ls (vI z :: st) h := by
  subst em
  exact wq_newI hz9 hb hac ht hR1 hR2 d k
theorem wq_newL1 {z : Int} {len : Nat} (em : n + 1 = m) (hz9 : z = len) (hb : len * 8 ≤ 536870912) (hac : Cond.arrayClass .long ∈ zgw) (ht : zTAU m = (1, len)) (hR1 : m - n0 ≤ R.cells) (hR2 : zSL m - zSL n0 ≤ R.slots) (d : decode M.2.1 pc = .ok (.newarray .long, 2)) (k : wq G R Z X M n0 m (pc + 2) ls (vR m :: st) h) : wq G R Z X M n0 n pc ls (vI z :: st) h := by
  subst em
  exact wq_newL hz9 hb hac ht hR1 hR2 d k
theorem wq_newA1 {z : Int} {len t idx : Nat} {C : String} (em : n + 1 = m) (hz9 : z = len) (hb : len * 4 ≤ 536870912) (t1 : 2 ≤ t) (t2 : t < 99) (hC : (ztys G)[t]? = some (G.2.2.2 t, .object C)) (hao : ∀ s, zKx G s → va_AO C s) (hlk : Cond.classLink M.1.cls idx C ∈ zgw) (ht : zTAU m = (t, len)) (hR1 : m - n0 ≤ R.cells) (hR2 : zSL m - zSL n0 ≤ R.slots) (d : decode M.2.1 pc = .ok (.anewarray idx, 3)) (k : wq G R Z X M n0 m (pc + 3) ls (vR m :: st) h) : wq G R Z X M n0 n pc ls (vI z :: st) h := by
  subst em
  exact wq_newA hz9 hb t1 t2 hC hao hlk ht hR1 hR2 d k
end NEW1
theorem zrF {d n0 nE : Nat} (h : 1 ≤ d) : 1 ≤ (zRm d n0 nE).frames := h
theorem zrL {d n0 nE : Nat} (h : 1 ≤ d) : 20 ≤ (zRm d n0 nE).locals := by show 20 ≤ 100 * d; omega
def wRow (a : Nat) (h : zHp) : zHp := sI (sR h a 0 (a + 1)) a 1 0
def wDl (c : Nat) (h : zHp) : Nat → zHp
  | 0 => h
  | i + 1 => sI (wDl c h i) c i (-1)
def wDoc (a : Nat) (h : zHp) : zHp := wDl (a + 3) (sR (sR (sR (wRow (a + 1) h) a 0 (a + 1)) a 1 (a + 3)) a 2 (a + 4)) 4
def wHl (h : zHp) : Nat → zHp
  | 0 => h
  | i + 1 => sR (wDoc (15 + 5 * i) (wHl h i)) 14 i (15 + 5 * i)
def wHist (h : zHp) : zHp := sI (sI (wHl (sR (sR h 13 0 8) 13 1 14) 13) 13 2 0) 13 3 0
def wTl (a : Nat) (h : zHp) : Nat → zHp
  | 0 => h
  | i + 1 => sR (wTl a h i) (a + 1) i (a + 2 + i)
def wTm (a : Nat) (h : zHp) : zHp := sI (wTl a (sR h a 0 (a + 1)) 24) a 1 0
def wPar (h : zHp) : zHp := sI (sI (sI (sR (sR h 211 0 2) 211 1 185) 211 2 0) 211 3 (-1)) 211 4 (-1009)
def wPat (h : zHp) : zHp := sI (sR (sR h 212 0 213) 212 1 214) 212 2 0
def wFld (a : Nat) (h : zHp) : zHp := sR h a 7 (a + 1)
def wLl (h : zHp) : Nat → zHp
  | 0 => h
  | i + 1 => sR (wFld (217 + 2 * i) (wLl h i)) 216 i (217 + 2 * i)
def wLay (h : zHp) : zHp := sR (sR (sR (sR (sR (sR (sR (wLl (sR h 215 0 216) 60) 215 4 9) 215 5 185) 215 8 337) 215 9 338) 215 10 339) 215 11 340) 215 12 341
section CTOR
variable {G : zG} {d : Nat} {Q : Option zV → zHp → Prop} {h : zHp} {a : Nat}
theorem sp_maxG {n : Nat} {x y : Int} (k : ∀ r, (x ≤ r ∧ y ≤ r ∧ (r = x ∨ r = y)) → Q (some (vI r)) h) : wp G d n n M_J9_max_7cf53 n 0 (zar 0 [vI x, vI y]) [] h Q := by
  refine wq_iload_n 0 rfl rfl dJ9_max_7cf53_0 ?_
  refine wq_iload_n 1 rfl rfl dJ9_max_7cf53_1 ?_
  refine wq_icmp_lt 9 rfl dJ9_max_7cf53_2 (fun c1 => ?_) (fun c1 => ?_)
  · refine wq_iload_n 1 rfl rfl dJ9_max_7cf53_9 ?_
    exact wp_iret rfl dJ9_max_7cf53_10 (k _ (by omega))
  · refine wq_iload_n 0 rfl rfl dJ9_max_7cf53_5 ?_
    refine wq_goto 10 rfl dJ9_max_7cf53_6 ?_
    exact wp_iret rfl dJ9_max_7cf53_10 (k _ (by omega))
/-- m more writes from slot i on -/
def wDm (c : Nat) (h : zHp) (i : Nat) : Nat → zHp
  | 0 => h
  | m + 1 => wDm c (sI h c i (-1)) (i + 1) m
def wTs (a : Nat) (h : zHp) (i : Nat) : Nat → zHp
  | 0 => h
  | m + 1 => wTs a (sR h (a + 1) i (a + 2 + i)) (i + 1) m
def wLs (h : zHp) (i : Nat) : Nat → zHp
  | 0 => h
  | m + 1 => wLs (sR (wFld (217 + 2 * i) h) 216 i (217 + 2 * i)) (i + 1) m
def wLe (h : zHp) : zHp := sR (sR (sR (sR (sR (sR (sR h 215 4 9) 215 5 185) 215 8 337) 215 9 338) 215 10 339) 215 11 340) 215 12 341
def wHs (h : zHp) (i : Nat) : Nat → zHp
  | 0 => h
  | m + 1 => wHs (sR (wDoc (15 + 5 * i) h) 14 i (15 + 5 * i)) (i + 1) m
theorem zhds_all : ∀ i, i < 13 → zTAU (15 + 5 * i) = (102, 3) := by decide +kernel
theorem zhds {i : Nat} (hi : i < 13) : zT 369 (15 + 5 * i) = (102, 3) := zT_of (zhds_all i hi) (by decide)
theorem ztms_all : ∀ i, i < 5 → zTAU (81 + 26 * i) = (108, 2) := by decide +kernel
theorem ztms {i : Nat} (hi : i < 5) : zT 369 (81 + 26 * i) = (108, 2) := zT_of (ztms_all i hi) (by decide)
theorem gR_wDl (c : Nat) (h : zHp) (b j : Nat) : ∀ n, gR (wDl c h n) b j = gR h b j
  | 0 => rfl
  | n + 1 => gR_wDl c h b j n
theorem gR_wDoc_lt {a b j : Nat} {h : zHp} (hb : b < a) : gR (wDoc a h) b j = gR h b j := by
  unfold wDoc wRow
  rw [gR_wDl, gR_sR, if_neg (by omega), gR_sR, if_neg (by omega), gR_sR, if_neg (by omega), gR_sI, gR_sR, if_neg (by omega)]
theorem wTs_l {a : Nat} {h : zHp} : ∀ m i, wTs a (wTl a h i) i m = wTl a h (i + m)
  | 0, i => rfl
  | m + 1, i => by
    rw [show i + (m + 1) = (i + 1) + m by omega, ← wTs_l m (i + 1)]
    rfl
theorem wLs_l {h : zHp} : ∀ m i, wLs (wLl h i) i m = wLl h (i + m)
  | 0, i => rfl
  | m + 1, i => by
    rw [show i + (m + 1) = (i + 1) + m by omega, ← wLs_l m (i + 1)]
    rfl
theorem wHs_l {h : zHp} : ∀ m i, wHs (wHl h i) i m = wHl h (i + m)
  | 0, i => rfl
  | m + 1, i => by
    rw [show i + (m + 1) = (i + 1) + m by omega, ← wHs_l m (i + 1)]
    rfl
theorem wDm_l {c : Nat} {h : zHp} : ∀ m i, wDm c (wDl c h i) i m = wDl c h (i + m)
  | 0, i => rfl
  | m + 1, i => by
    rw [show i + (m + 1) = (i + 1) + m by omega, ← wDm_l m (i + 1)]
    rfl
theorem ct_X0 {z : Int} {len : Nat} (hd : 1 ≤ d) (hT : zT 369 a = (100, 2)) (hT1 : zT 369 (a + 1) = (0, len)) (hz : z = len) (hl : len ≤ 2556) (k : Q none (wRow a h)) : wp G d a (a + 1) M_X0_init a 0 (zar 0 [vR a, vI z]) [] h Q := by
  refine wq_aload_n 0 rfl rfl dX0_init_0 ?_
  refine wq_objInit lk_X0_3 ob_i ob_c (Nat.le_of_ble_eq_true rfl) (zrF (by omega)) (zrL (by omega)) dX0_init_1 ?_
  refine wq_aload_n 0 rfl rfl dX0_init_4 ?_
  refine wq_iload_n 1 rfl rfl dX0_init_5 ?_
  refine wq_iconst (z := 0) (zlit rfl) dX0_init_6 ?_
  refine wq_callS (nE' := a) (d' := d - 1) (Q' := fun v g => v = some (vI z) ∧ g = h) (As := [vI z, vI 0]) 2 md_J9_max_7cf53 ms_J9_max_7cf53 lk_X0_9 rfl rfl (Nat.le_of_ble_eq_true rfl) (Nat.le_of_ble_eq_true rfl) (by omega) (zFit_rm (by omega) (by omega)) dX0_init_7 (sp_maxG (fun r er => ⟨by rw [show r = z by omega], rfl⟩)) (fun v g q _ => ?_)
  obtain ⟨rfl, rfl⟩ := q
  refine wq_st (st' := [vI z, vR a]) rfl ?_
  refine wq_newI1 (m := (a + 1)) (by omega) hz (by omega) ar_I (zTA hT1 (by simp)) (zQ1 (by omega)) (zQ2 (by omega)) dX0_init_10 ?_
  refine wq_putR (by omega) fk_X0_15 (zTn hT (by decide) (by omega)) (Or.inr ⟨rfl, rfl, rfl⟩) (fun _ _ _ => rfl) (fun _ => rfl) (fun _ => rfl) dX0_init_12 ?_
  refine wq_aload_n 0 rfl rfl dX0_init_15 ?_
  refine wq_iconst (z := 0) (zlit rfl) dX0_init_16 ?_
  refine wq_putI fk_X0_21 (zTn hT (by decide) (by omega)) rfl rfl dX0_init_17 ?_
  exact wp_vret rfl dX0_init_20 k

theorem ct_X2 (hd : 2 ≤ d) (hT : zT 369 a = (102, 3)) (k : Q none (wDoc a h)) : wp G d a (a + 4) M_X2_init a 0 (zar 0 [vR a]) [] h Q := by
  have loop : ∀ (m i : Nat) (g : zHp), i + m = 4 → gR g a 1 = a + 3 → Q none (wDm (a + 3) g i m) → wp G d a (a + 4) M_X2_init (a + 4) 34 [(0, vR a), (1, vI (i : Int))] [] g Q := by
    intro m
    induction m with
    | zero =>
      intro i g hi hg k
      refine wq_iload_n 1 rfl rfl dX2_init_34 ?_
      refine wq_iconst (z := 4) (zlit rfl) dX2_init_35 ?_
      refine wq_icmp_ge 52 rfl dX2_init_36 (fun _ => ?_) (fun c => by omega)
      exact wp_vret rfl dX2_init_52 k
    | succ m ih =>
      intro i g hi hg k
      refine wq_iload_n 1 rfl rfl dX2_init_34 ?_
      refine wq_iconst (z := 4) (zlit rfl) dX2_init_35 ?_
      refine wq_icmp_ge 52 rfl dX2_init_36 (fun c => by omega) (fun _ => ?_)
      refine wq_aload_n 0 rfl rfl dX2_init_39 ?_
      refine wq_getR (r := (a + 3)) fk_X2_20 (zTn hT (by decide) (by omega)) (fun _ _ _ => rfl) hg (by omega) dX2_init_40 ?_
      refine wq_iload_n 1 rfl rfl dX2_init_43 ?_
      refine wq_iconst (z := -1) (zlit rfl) dX2_init_44 ?_
      refine wq_iast (zTn (zdoc1 hT) (by decide) (by omega)) (by omega) (by omega) dX2_init_45 ?_
      refine wq_iinc (y := ((i + 1 : Nat) : Int)) (ls' := [(0, vR a), (1, vI ((i + 1 : Nat) : Int))]) 1 rfl (by omega) ⟨by omega, by omega⟩ (by decide) rfl dX2_init_46 ?_
      refine wq_goto 34 rfl dX2_init_49 ?_
      rw [show ((i : Nat) : Int).toNat = i by omega]
      exact ih (i + 1) _ (by omega) hg k
  refine wq_aload_n 0 rfl rfl dX2_init_0 ?_
  refine wq_objInit lk_X2_3 ob_i ob_c (Nat.le_of_ble_eq_true rfl) (zrF (by omega)) (zrL (by omega)) dX2_init_1 ?_
  refine wq_aload_n 0 rfl rfl dX2_init_4 ?_
  refine wq_new1 (m := (a + 1)) (by omega) cl_0 tb_0 ck_X2_9 in_X0 it_X0 (zTA (zdoc0 hT) (by decide)) (zQ1 (by omega)) (zQ2 (by omega)) dX2_init_5 ?_
  refine wq_dup rfl dX2_init_8 ?_
  refine wq_sipush (z := 200) (zlit rfl) rfl dX2_init_9 ?_
  refine wq_callI (nE' := (a + 2)) (d' := d - 1) (Q' := fun v g => v = none ∧ g = wRow (a + 1) h) (As := [vI 200]) 1 md_X0_init rfl rfl mi_X0_init lk_X2_11 rfl rfl (Nat.le_of_ble_eq_true rfl) (Nat.le_of_ble_eq_true rfl) (by omega) (zFit_rm (by omega) (by omega)) dX2_init_12 (ct_X0 (by omega) (zdoc0 hT) (zdocB hT) rfl (by decide) ⟨rfl, rfl⟩) (fun v g q _ => ?_)
  obtain ⟨rfl, rfl⟩ := q
  refine wq_st (st' := [vR (a + 1), vR a]) rfl ?_
  refine wq_putR (by omega) fk_X2_14 (zTn hT (by decide) (by omega)) (Or.inr ⟨rfl, rfl, rfl⟩) (fun _ _ _ => rfl) (fun _ => rfl) (fun _ => rfl) dX2_init_15 ?_
  refine wq_aload_n 0 rfl rfl dX2_init_18 ?_
  refine wq_iconst (z := 4) (zlit rfl) dX2_init_19 ?_
  refine wq_newI1 (m := (a + 3)) (by omega) rfl (Nat.le_of_ble_eq_true rfl) ar_I (zTA (zdoc1 hT) (by decide)) (zQ1 (by omega)) (zQ2 (by omega)) dX2_init_20 ?_
  refine wq_putR (by omega) fk_X2_20 (zTn hT (by decide) (by omega)) (Or.inr ⟨rfl, rfl, rfl⟩) (fun _ _ _ => rfl) (fun _ => rfl) (fun _ => rfl) dX2_init_22 ?_
  refine wq_aload_n 0 rfl rfl dX2_init_25 ?_
  refine wq_iconst (z := 4) (zlit rfl) dX2_init_26 ?_
  refine wq_newI1 (m := (a + 4)) (by omega) rfl (Nat.le_of_ble_eq_true rfl) ar_I (zTA (zdoc2 hT) (by decide)) (zQ1 (by omega)) (zQ2 (by omega)) dX2_init_27 ?_
  refine wq_putR (by omega) fk_X2_24 (zTn hT (by decide) (by omega)) (Or.inr ⟨rfl, rfl, rfl⟩) (fun _ _ _ => rfl) (fun _ => rfl) (fun _ => rfl) dX2_init_29 ?_
  refine wq_iconst (z := 0) (zlit rfl) dX2_init_32 ?_
  refine wq_istore_n (ls' := [(0, vR a), (1, vI 0)]) rfl (by decide) rfl dX2_init_33 ?_
  refine loop 4 0 _ rfl ?_ ?_
  · rw [gR_sR, if_neg (by omega), gR_sR, if_pos ⟨rfl, rfl⟩]
  · exact k

theorem ct_X5 (hd : 1 ≤ d) (k : Q none h) : wp G d a a M_X5_init a 0 (zar 0 [vR a]) [] h Q := by
  refine wq_aload_n 0 rfl rfl dX5_init_0 ?_
  refine wq_objInit lk_X5_1 ob_i ob_c (Nat.le_of_ble_eq_true rfl) (zrF (by omega)) (zrL (by omega)) dX5_init_1 ?_
  exact wp_vret rfl dX5_init_4 k

theorem ct_X3 (hd : 1 ≤ d) (hT : zT 369 a = (103, 8)) (k : Q none (wFld a h)) : wp G d a (a + 1) M_X3_init a 0 (zar 0 [vR a]) [] h Q := by
  refine wq_aload_n 0 rfl rfl dX3_init_0 ?_
  refine wq_objInit lk_X3_3 ob_i ob_c (Nat.le_of_ble_eq_true rfl) (zrF (by omega)) (zrL (by omega)) dX3_init_1 ?_
  refine wq_aload_n 0 rfl rfl dX3_init_4 ?_
  refine wq_iconst (z := 4) (zlit rfl) dX3_init_5 ?_
  refine wq_newI1 (m := (a + 1)) (by omega) rfl (Nat.le_of_ble_eq_true rfl) ar_I (zTA (zfld7 hT) (by decide)) (zQ1 (by omega)) (zQ2 (by omega)) dX3_init_6 ?_
  refine wq_putR (by omega) fk_X3_11 (zTn hT (by decide) (by omega)) (Or.inr ⟨rfl, rfl, rfl⟩) (fun _ _ _ => rfl) (fun _ => rfl) (fun _ => rfl) dX3_init_8 ?_
  exact wp_vret rfl dX3_init_11 k

theorem ct_X8 (hd : 2 ≤ d) (hT : zT 369 a = (108, 2)) (k : Q none (wTm a h)) : wp G d a (a + 25) M_X8_init a 0 (zar 0 [vR a]) [] h Q := by
  have ha := (zT_at hT (by decide)).1
  have loop : ∀ (m i : Nat) (g : zHp), i + m = 24 → gR g a 0 = a + 1 → Q none (sI (wTs a g i m) a 1 0) → wp G d a (a + 25) M_X8_init (a + 1 + i) 15 [(0, vR a), (1, vI (i : Int))] [] g Q := by
    intro m
    induction m with
    | zero =>
      intro i g hi hg k
      refine wq_iload_n 1 rfl rfl dX8_init_15 ?_
      refine wq_bipush (z := 24) (zlit rfl) rfl dX8_init_16 ?_
      refine wq_icmp_ge 40 rfl dX8_init_18 (fun _ => ?_) (fun c => by omega)
      have ei : a + 1 + i = a + 25 := by omega
      rw [ei]
      refine wq_aload_n 0 rfl rfl dX8_init_40 ?_
      refine wq_iconst (z := 0) (zlit rfl) dX8_init_41 ?_
      refine wq_putI fk_X8_16 (zTn hT (by decide) (by omega)) rfl rfl dX8_init_42 ?_
      exact wp_vret rfl dX8_init_45 k
    | succ m ih =>
      intro i g0 hi hg k
      refine wq_iload_n 1 rfl rfl dX8_init_15 ?_
      refine wq_bipush (z := 24) (zlit rfl) rfl dX8_init_16 ?_
      refine wq_icmp_ge 40 rfl dX8_init_18 (fun c => by omega) (fun _ => ?_)
      refine wq_aload_n 0 rfl rfl dX8_init_21 ?_
      refine wq_getR (r := (a + 1)) fk_X8_11 (zTn hT (by decide) (by omega)) (fun _ _ _ => rfl) hg (by omega) dX8_init_22 ?_
      refine wq_iload_n 1 rfl rfl dX8_init_25 ?_
      have en : a + 1 + i + 1 = a + 2 + i := by omega
      refine wq_new cl_5 tb_5 ck_X8_9 in_X5 it_X5 (by rw [en]; exact zTA (zitm hT (k := i) (by omega)) (by decide)) (zR1 (by omega)) (zR2 (by omega)) dX8_init_26 ?_
      rw [en]
      refine wq_dup rfl dX8_init_29 ?_
      refine wq_callIN (host := RX10) (nE' := (a + 2 + i)) (d' := d - 1) (Q' := fun v g => v = none ∧ g = g0) (As := []) 0 md_X5_init rfl rfl mi_X5_init (fun s h => h.2.2) rfl rfl (Nat.le_of_ble_eq_true rfl) (Nat.le_of_ble_eq_true rfl) (by omega) (zFit_rm (by omega) (by omega)) dX8_init_30 (ct_X5 (by omega) ⟨rfl, rfl⟩) (fun v g q _ => ?_)
      obtain ⟨rfl, rfl⟩ := q
      refine wq_st (st' := [vR (a + 2 + i), vI (i : Int), vR (a + 1)]) rfl ?_
      refine wq_aast (cc := 5) (zTn (ztm0 hT) (by decide) (by omega)) (by decide) (by decide) rfl (zTn (zitm hT (k := i) (by omega)) (by decide) (by omega)) (by omega) cl_5.1 (by omega) (by omega) dX8_init_33 ?_
      refine wq_iinc (y := ((i + 1 : Nat) : Int)) (ls' := [(0, vR a), (1, vI ((i + 1 : Nat) : Int))]) 1 rfl (by omega) ⟨by omega, by omega⟩ (by decide) rfl dX8_init_34 ?_
      refine wq_goto 15 rfl dX8_init_37 ?_
      rw [show ((i : Nat) : Int).toNat = i by omega, show a + 2 + i = a + 1 + (i + 1) by omega]
      refine ih (i + 1) _ (by omega) (by rw [gR_sR, if_neg (by omega)]; exact hg) ?_
      rw [show a + 1 + (i + 1) = a + 2 + i by omega]
      exact k
  refine wq_aload_n 0 rfl rfl dX8_init_0 ?_
  refine wq_objInit lk_X8_1 ob_i ob_c (Nat.le_of_ble_eq_true rfl) (zrF (by omega)) (zrL (by omega)) dX8_init_1 ?_
  refine wq_aload_n 0 rfl rfl dX8_init_4 ?_
  refine wq_bipush (z := 24) (zlit rfl) rfl dX8_init_5 ?_
  refine wq_newA1 (m := (a + 1)) (t := 4) (by omega) rfl (Nat.le_of_ble_eq_true rfl) (by decide) (by decide) rfl (fun s h => h.2.1.2.2.1) ck_X8_9 (zTA (ztm0 hT) (by decide)) (zQ1 (by omega)) (zQ2 (by omega)) dX8_init_7 ?_
  refine wq_putR (by omega) fk_X8_11 (zTn hT (by decide) (by omega)) (Or.inr ⟨rfl, rfl, rfl⟩) (fun _ _ _ => rfl) (fun _ => rfl) (fun _ => rfl) dX8_init_10 ?_
  refine wq_iconst (z := 0) (zlit rfl) dX8_init_13 ?_
  refine wq_istore_n (ls' := [(0, vR a), (1, vI 0)]) rfl (by decide) rfl dX8_init_14 ?_
  refine loop 24 0 _ rfl ?_ ?_
  · rw [gR_sR, if_pos ⟨rfl, rfl⟩]
  · exact k

theorem ct_X9 (hd : 1 ≤ d) (k : Q none (wPar h)) : wp G d 211 211 M_X9_init 211 0 (zar 0 [vR 211, vR 2, vR 185]) [] h Q := by
  refine wq_aload_n 0 rfl rfl dX9_init_0 ?_
  refine wq_objInit lk_X9_3 ob_i ob_c (Nat.le_of_ble_eq_true rfl) (zrF (by omega)) (zrL (by omega)) dX9_init_1 ?_
  refine wq_aload_n 0 rfl rfl dX9_init_4 ?_
  refine wq_aload_n 1 rfl rfl dX9_init_5 ?_
  refine wq_putR (by omega) fk_X9_9 (zTn tT_211 (by decide) (by omega)) (Or.inr ⟨rfl, rfl, rfl⟩) (fun _ _ _ => rfl) (fun _ => rfl) (fun _ => rfl) dX9_init_6 ?_
  refine wq_aload_n 0 rfl rfl dX9_init_9 ?_
  refine wq_aload_n 2 rfl rfl dX9_init_10 ?_
  refine wq_putR (by omega) fk_X9_15 (zTn tT_211 (by decide) (by omega)) (Or.inl rfl) (fun _ _ _ => rfl) (fun _ => rfl) (fun _ => rfl) dX9_init_11 ?_
  refine wq_aload_n 0 rfl rfl dX9_init_14 ?_
  refine wq_iconst (z := 0) (zlit rfl) dX9_init_15 ?_
  refine wq_putI fk_X9_19 (zTn tT_211 (by decide) (by omega)) rfl rfl dX9_init_16 ?_
  refine wq_aload_n 0 rfl rfl dX9_init_19 ?_
  refine wq_iconst (z := -1) (zlit rfl) dX9_init_20 ?_
  refine wq_putI fk_X9_25 (zTn tT_211 (by decide) (by omega)) rfl rfl dX9_init_21 ?_
  refine wq_aload_n 0 rfl rfl dX9_init_24 ?_
  refine wq_sipush (z := -1009) (zlit rfl) rfl dX9_init_25 ?_
  refine wq_putI fk_X9_28 (zTn tT_211 (by decide) (by omega)) rfl rfl dX9_init_28 ?_
  exact wp_vret rfl dX9_init_31 k

theorem ct_X7 (hd : 1 ≤ d) (k : Q none (wPat h)) : wp G d 212 214 M_X7_init 212 0 (zar 0 [vR 212]) [] h Q := by
  refine wq_aload_n 0 rfl rfl dX7_init_0 ?_
  refine wq_objInit lk_X7_3 ob_i ob_c (Nat.le_of_ble_eq_true rfl) (zrF (by omega)) (zrL (by omega)) dX7_init_1 ?_
  refine wq_aload_n 0 rfl rfl dX7_init_4 ?_
  refine wq_bipush (z := 16) (zlit rfl) rfl dX7_init_5 ?_
  refine wq_newI1 (m := 213) (by omega) rfl (Nat.le_of_ble_eq_true rfl) ar_I (by decide +kernel) (zQ1 (by omega)) (zQ2 (by omega)) dX7_init_7 ?_
  refine wq_putR (by omega) fk_X7_11 (zTn tT_212 (by decide) (by omega)) (Or.inr ⟨rfl, rfl, rfl⟩) (fun _ _ _ => rfl) (fun _ => rfl) (fun _ => rfl) dX7_init_9 ?_
  refine wq_aload_n 0 rfl rfl dX7_init_12 ?_
  refine wq_bipush (z := 16) (zlit rfl) rfl dX7_init_13 ?_
  refine wq_newI1 (m := 214) (by omega) rfl (Nat.le_of_ble_eq_true rfl) ar_I (by decide +kernel) (zQ1 (by omega)) (zQ2 (by omega)) dX7_init_15 ?_
  refine wq_putR (by omega) fk_X7_15 (zTn tT_212 (by decide) (by omega)) (Or.inr ⟨rfl, rfl, rfl⟩) (fun _ _ _ => rfl) (fun _ => rfl) (fun _ => rfl) dX7_init_17 ?_
  refine wq_aload_n 0 rfl rfl dX7_init_20 ?_
  refine wq_iconst (z := 0) (zlit rfl) dX7_init_21 ?_
  refine wq_putI fk_X7_18 (zTn tT_212 (by decide) (by omega)) rfl rfl dX7_init_22 ?_
  exact wp_vret rfl dX7_init_25 k

theorem ct_X6 (hd : 2 ≤ d) (k : Q none (wLay h)) : wp G d 215 341 M_X6_init 215 0 (zar 0 [vR 215, vR 185, vR 9]) [] h Q := by
  have loop : ∀ (m i : Nat) (g : zHp), i + m = 60 → gR g 215 0 = 216 → Q none (wLe (wLs g i m)) → wp G d 215 341 M_X6_init (216 + 2 * i) 15 [(0, vR 215), (1, vR 185), (2, vR 9), (3, vI (i : Int))] [] g Q := by
    intro m
    induction m with
    | zero =>
      intro i g hi hg k
      refine wq_iload_n 3 rfl rfl dX6_init_15 ?_
      refine wq_bipush (z := 60) (zlit rfl) rfl dX6_init_16 ?_
      refine wq_icmp_ge 40 rfl dX6_init_18 (fun _ => ?_) (fun c => by omega)
      rw [show 216 + 2 * i = 336 by omega]
      refine wq_aload_n 0 rfl rfl dX6_init_40 ?_
      refine wq_aload_n 2 rfl rfl dX6_init_41 ?_
      refine wq_putR (by omega) fk_X6_18 (zTn tT_215 (by decide) (by omega)) (Or.inr ⟨rfl, rfl, rfl⟩) (fun _ _ _ => rfl) (fun _ => rfl) (fun _ => rfl) dX6_init_42 ?_
      refine wq_aload_n 0 rfl rfl dX6_init_45 ?_
      refine wq_aload_n 1 rfl rfl dX6_init_46 ?_
      refine wq_putR (by omega) fk_X6_22 (zTn tT_215 (by decide) (by omega)) (Or.inl rfl) (fun _ _ _ => rfl) (fun _ => rfl) (fun _ => rfl) dX6_init_47 ?_
      refine wq_aload_n 0 rfl rfl dX6_init_50 ?_
      refine wq_iconst (z := 4) (zlit rfl) dX6_init_51 ?_
      refine wq_newI1 (m := 337) (by omega) rfl (Nat.le_of_ble_eq_true rfl) ar_I (by decide +kernel) (zQ1 (by omega)) (zQ2 (by omega)) dX6_init_52 ?_
      refine wq_putR (by omega) fk_X6_28 (zTn tT_215 (by decide) (by omega)) (Or.inr ⟨rfl, rfl, rfl⟩) (fun _ _ _ => rfl) (fun _ => rfl) (fun _ => rfl) dX6_init_54 ?_
      refine wq_aload_n 0 rfl rfl dX6_init_57 ?_
      refine wq_bipush (z := 24) (zlit rfl) rfl dX6_init_58 ?_
      refine wq_newL1 (m := 338) (by omega) rfl (Nat.le_of_ble_eq_true rfl) ar_L (by decide +kernel) (zQ1 (by omega)) (zQ2 (by omega)) dX6_init_60 ?_
      refine wq_putR (by omega) fk_X6_32 (zTn tT_215 (by decide) (by omega)) (Or.inr ⟨rfl, rfl, rfl⟩) (fun _ _ _ => rfl) (fun _ => rfl) (fun _ => rfl) dX6_init_62 ?_
      refine wq_aload_n 0 rfl rfl dX6_init_65 ?_
      refine wq_bipush (z := 24) (zlit rfl) rfl dX6_init_66 ?_
      refine wq_newI1 (m := 339) (by omega) rfl (Nat.le_of_ble_eq_true rfl) ar_I (by decide +kernel) (zQ1 (by omega)) (zQ2 (by omega)) dX6_init_68 ?_
      refine wq_putR (by omega) fk_X6_36 (zTn tT_215 (by decide) (by omega)) (Or.inr ⟨rfl, rfl, rfl⟩) (fun _ _ _ => rfl) (fun _ => rfl) (fun _ => rfl) dX6_init_70 ?_
      refine wq_aload_n 0 rfl rfl dX6_init_73 ?_
      refine wq_bipush (z := 24) (zlit rfl) rfl dX6_init_74 ?_
      refine wq_newI1 (m := 340) (by omega) rfl (Nat.le_of_ble_eq_true rfl) ar_I (by decide +kernel) (zQ1 (by omega)) (zQ2 (by omega)) dX6_init_76 ?_
      refine wq_putR (by omega) fk_X6_39 (zTn tT_215 (by decide) (by omega)) (Or.inr ⟨rfl, rfl, rfl⟩) (fun _ _ _ => rfl) (fun _ => rfl) (fun _ => rfl) dX6_init_78 ?_
      refine wq_aload_n 0 rfl rfl dX6_init_81 ?_
      refine wq_iconst (z := 4) (zlit rfl) dX6_init_82 ?_
      refine wq_newI1 (m := 341) (by omega) rfl (Nat.le_of_ble_eq_true rfl) ar_I (by decide +kernel) (zQ1 (by omega)) (zQ2 (by omega)) dX6_init_83 ?_
      refine wq_putR (by omega) fk_X6_42 (zTn tT_215 (by decide) (by omega)) (Or.inr ⟨rfl, rfl, rfl⟩) (fun _ _ _ => rfl) (fun _ => rfl) (fun _ => rfl) dX6_init_85 ?_
      exact wp_vret rfl dX6_init_88 k
    | succ m ih =>
      intro i g0 hi hg k
      refine wq_iload_n 3 rfl rfl dX6_init_15 ?_
      refine wq_bipush (z := 60) (zlit rfl) rfl dX6_init_16 ?_
      refine wq_icmp_ge 40 rfl dX6_init_18 (fun c => by omega) (fun _ => ?_)
      refine wq_aload_n 0 rfl rfl dX6_init_21 ?_
      refine wq_getR (r := 216) fk_X6_13 (zTn tT_215 (by decide) (by omega)) (fun _ _ _ => rfl) hg (by omega) dX6_init_22 ?_
      refine wq_iload_n 3 rfl rfl dX6_init_25 ?_
      have en : 216 + 2 * i + 1 = 217 + 2 * i := by omega
      refine wq_new cl_3 tb_3 ck_X6_11 in_X3 it_X3 (by rw [en]; exact zfds_all i (by omega)) (zR1 (by omega)) (zR2 (by omega)) dX6_init_26 ?_
      rw [en]
      refine wq_dup rfl dX6_init_29 ?_
      refine wq_callI (nE' := 217 + 2 * i + 1) (d' := d - 1) (Q' := fun v g => v = none ∧ g = wFld (217 + 2 * i) g0) (As := []) 0 md_X3_init rfl rfl mi_X3_init lk_X6_17 rfl rfl (Nat.le_of_ble_eq_true rfl) (Nat.le_of_ble_eq_true rfl) (by omega) (zFit_rm (by omega) (by omega)) dX6_init_30 (ct_X3 (by omega) (zfds (by omega)) ⟨rfl, rfl⟩) (fun v g q _ => ?_)
      obtain ⟨rfl, rfl⟩ := q
      refine wq_st (st' := [vR (217 + 2 * i), vI (i : Int), vR 216]) rfl ?_
      refine wq_aast (cc := 3) (zTn tT_216 (by decide) (by omega)) (by decide) (by decide) rfl (zTn (zfds (k := i) (by omega)) (by decide) (by omega)) (by omega) cl_3.1 (by omega) (by omega) dX6_init_33 ?_
      refine wq_iinc (y := ((i + 1 : Nat) : Int)) (ls' := [(0, vR 215), (1, vR 185), (2, vR 9), (3, vI ((i + 1 : Nat) : Int))]) 3 rfl (by omega) ⟨by omega, by omega⟩ (by decide) rfl dX6_init_34 ?_
      refine wq_goto 15 rfl dX6_init_37 ?_
      rw [show ((i : Nat) : Int).toNat = i by omega, show 217 + 2 * i + 1 = 216 + 2 * (i + 1) by omega]
      refine ih (i + 1) _ (by omega) (by rw [gR_sR, if_neg (by omega)]; unfold wFld; rw [gR_sR, if_neg (by omega)]; exact hg) k
  refine wq_aload_n 0 rfl rfl dX6_init_0 ?_
  refine wq_objInit lk_X6_3 ob_i ob_c (Nat.le_of_ble_eq_true rfl) (zrF (by omega)) (zrL (by omega)) dX6_init_1 ?_
  refine wq_aload_n 0 rfl rfl dX6_init_4 ?_
  refine wq_bipush (z := 60) (zlit rfl) rfl dX6_init_5 ?_
  refine wq_newA1 (m := 216) (t := 5) (by omega) rfl (Nat.le_of_ble_eq_true rfl) (by decide) (by decide) rfl (fun s h => h.2.1.2.2.2) ck_X6_11 (by decide +kernel) (zQ1 (by omega)) (zQ2 (by omega)) dX6_init_7 ?_
  refine wq_putR (by omega) fk_X6_13 (zTn tT_215 (by decide) (by omega)) (Or.inr ⟨rfl, rfl, rfl⟩) (fun _ _ _ => rfl) (fun _ => rfl) (fun _ => rfl) dX6_init_10 ?_
  refine wq_iconst (z := 0) (zlit rfl) dX6_init_13 ?_
  refine wq_istore_n (ls' := [(0, vR 215), (1, vR 185), (2, vR 9), (3, vI 0)]) rfl (by decide) rfl dX6_init_14 ?_
  refine loop 60 0 _ rfl ?_ ?_
  · rw [gR_sR, if_pos ⟨rfl, rfl⟩]
  · have e : wLs (sR h 215 0 (215 + 1)) 0 60 = wLl (sR h 215 0 216) 60 := wLs_l 60 0
    rw [e]
    exact k

theorem ct_X4 (hd : 3 ≤ d) (k : Q none (wHist h)) : wp G d 13 79 M_X4_init 13 0 (zar 0 [vR 13, vR 8]) [] h Q := by
  have loop : ∀ (m i : Nat) (g : zHp), i + m = 13 → gR g 13 1 = 14 → Q none (sI (sI (wHs g i m) 13 2 0) 13 3 0) → wp G d 13 79 M_X4_init (14 + 5 * i) 20 [(0, vR 13), (1, vR 8), (2, vI (i : Int))] [] g Q := by
    intro m
    induction m with
    | zero =>
      intro i g hi hg k
      refine wq_iload_n 2 rfl rfl dX4_init_20 ?_
      refine wq_bipush (z := 12) (zlit rfl) rfl dX4_init_21 ?_
      refine wq_icmp_gt 45 rfl dX4_init_23 (fun _ => ?_) (fun c => by omega)
      rw [show 14 + 5 * i = 79 by omega]
      refine wq_aload_n 0 rfl rfl dX4_init_45 ?_
      refine wq_iconst (z := 0) (zlit rfl) dX4_init_46 ?_
      refine wq_putI fk_X4_20 (zTn tT_13 (by decide) (by omega)) rfl rfl dX4_init_47 ?_
      refine wq_aload_n 0 rfl rfl dX4_init_50 ?_
      refine wq_iconst (z := 0) (zlit rfl) dX4_init_51 ?_
      refine wq_putI fk_X4_24 (zTn tT_13 (by decide) (by omega)) rfl rfl dX4_init_52 ?_
      exact wp_vret rfl dX4_init_55 k
    | succ m ih =>
      intro i g0 hi hg k
      refine wq_iload_n 2 rfl rfl dX4_init_20 ?_
      refine wq_bipush (z := 12) (zlit rfl) rfl dX4_init_21 ?_
      refine wq_icmp_gt 45 rfl dX4_init_23 (fun c => by omega) (fun _ => ?_)
      refine wq_aload_n 0 rfl rfl dX4_init_26 ?_
      refine wq_getR (r := 14) fk_X4_15 (zTn tT_13 (by decide) (by omega)) (fun _ _ _ => rfl) hg (by omega) dX4_init_27 ?_
      refine wq_iload_n 2 rfl rfl dX4_init_30 ?_
      have en : 14 + 5 * i + 1 = 15 + 5 * i := by omega
      refine wq_new cl_2 tb_2 ck_X4_13 in_X2 it_X2 (by rw [en]; exact zTA (zhds (by omega)) (by decide)) (zR1 (by omega)) (zR2 (by omega)) dX4_init_31 ?_
      rw [en]
      refine wq_dup rfl dX4_init_34 ?_
      refine wq_callI (nE' := (15 + 5 * i + 4)) (d' := d - 1) (Q' := fun v g => v = none ∧ g = wDoc (15 + 5 * i) g0) (As := []) 0 md_X2_init rfl rfl mi_X2_init lk_X4_19 rfl rfl (Nat.le_of_ble_eq_true rfl) (Nat.le_of_ble_eq_true rfl) (by omega) (zFit_rm (by omega) (by omega)) dX4_init_35 (ct_X2 (by omega) (zhds (by omega)) ⟨rfl, rfl⟩) (fun v g q _ => ?_)
      obtain ⟨rfl, rfl⟩ := q
      refine wq_st (st' := [vR (15 + 5 * i), vI (i : Int), vR 14]) rfl ?_
      refine wq_aast (cc := 2) (zTn tT_14 (by decide) (by omega)) (by decide) (by decide) rfl (zTn (zhds (i := i) (by omega)) (by decide) (by omega)) (by omega) cl_2.1 (by omega) (by omega) dX4_init_38 ?_
      refine wq_iinc (y := ((i + 1 : Nat) : Int)) (ls' := [(0, vR 13), (1, vR 8), (2, vI ((i + 1 : Nat) : Int))]) 2 rfl (by omega) ⟨by omega, by omega⟩ (by decide) rfl dX4_init_39 ?_
      refine wq_goto 20 rfl dX4_init_42 ?_
      rw [show ((i : Nat) : Int).toNat = i by omega, show 15 + 5 * i + 4 = 14 + 5 * (i + 1) by omega]
      refine ih (i + 1) _ (by omega) (by rw [gR_sR, if_neg (by omega), gR_wDoc_lt (by omega)]; exact hg) k
  refine wq_aload_n 0 rfl rfl dX4_init_0 ?_
  refine wq_objInit lk_X4_1 ob_i ob_c (Nat.le_of_ble_eq_true rfl) (zrF (by omega)) (zrL (by omega)) dX4_init_1 ?_
  refine wq_aload_n 0 rfl rfl dX4_init_4 ?_
  refine wq_aload_n 1 rfl rfl dX4_init_5 ?_
  refine wq_putR (by omega) fk_X4_7 (zTn tT_13 (by decide) (by omega)) (Or.inr ⟨rfl, rfl, rfl⟩) (fun _ _ _ => rfl) (fun _ => rfl) (fun _ => rfl) dX4_init_6 ?_
  refine wq_aload_n 0 rfl rfl dX4_init_9 ?_
  refine wq_bipush (z := 13) (zlit rfl) rfl dX4_init_10 ?_
  refine wq_newA1 (m := 14) (t := 2) (by omega) rfl (Nat.le_of_ble_eq_true rfl) (by decide) (by decide) rfl (fun s h => h.2.1.1) ck_X4_13 (by decide +kernel) (zQ1 (by omega)) (zQ2 (by omega)) dX4_init_12 ?_
  refine wq_putR (by omega) fk_X4_15 (zTn tT_13 (by decide) (by omega)) (Or.inr ⟨rfl, rfl, rfl⟩) (fun _ _ _ => rfl) (fun _ => rfl) (fun _ => rfl) dX4_init_15 ?_
  refine wq_iconst (z := 0) (zlit rfl) dX4_init_18 ?_
  refine wq_istore_n (ls' := [(0, vR 13), (1, vR 8), (2, vI 0)]) rfl (by decide) rfl dX4_init_19 ?_
  refine loop 13 0 _ rfl ?_ ?_
  · rw [gR_sR, if_pos ⟨rfl, rfl⟩]
  · have e : wHs (sR (sR h 13 0 8) 13 1 (13 + 1)) 0 13 = wHl (sR (sR h 13 0 8) 13 1 14) 13 := wHs_l 13 0
    rw [e]
    exact k
end CTOR
