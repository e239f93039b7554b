theorem dX11_opens_0 : decode cX11_opens 0 = .ok (.aload_n 0, 1) := by decide +kernel
theorem dX11_opens_1 : decode cX11_opens 1 = .ok (.invokevirtual 218, 3) := by decide +kernel
theorem dX11_opens_4 : decode cX11_opens 4 = .ok (.iconst 1, 1) := by decide +kernel
theorem dX11_opens_5 : decode cX11_opens 5 = .ok (.isub, 1) := by decide +kernel
theorem dX11_opens_6 : decode cX11_opens 6 = .ok (.istore_n 3, 1) := by decide +kernel
theorem dX11_opens_7 : decode cX11_opens 7 = .ok (.iload_n 3, 1) := by decide +kernel
theorem dX11_opens_8 : decode cX11_opens 8 = .ok (.iload_n 1, 1) := by decide +kernel
theorem dX11_opens_9 : decode cX11_opens 9 = .ok (.if_icmp .lt 23, 3) := by decide +kernel
theorem dX11_opens_12 : decode cX11_opens 12 = .ok (.aload_n 0, 1) := by decide +kernel
theorem dX11_opens_13 : decode cX11_opens 13 = .ok (.getfield 7, 3) := by decide +kernel
theorem dX11_opens_16 : decode cX11_opens 16 = .ok (.iload_n 3, 1) := by decide +kernel
theorem dX11_opens_17 : decode cX11_opens 17 = .ok (.iload_n 2, 1) := by decide +kernel
theorem dX11_opens_18 : decode cX11_opens 18 = .ok (.iadd, 1) := by decide +kernel
theorem dX11_opens_19 : decode cX11_opens 19 = .ok (.aload_n 0, 1) := by decide +kernel
theorem dX11_opens_20 : decode cX11_opens 20 = .ok (.getfield 7, 3) := by decide +kernel
theorem dX11_opens_23 : decode cX11_opens 23 = .ok (.iload_n 3, 1) := by decide +kernel
theorem dX11_opens_24 : decode cX11_opens 24 = .ok (.iaload, 1) := by decide +kernel
theorem dX11_opens_25 : decode cX11_opens 25 = .ok (.iastore, 1) := by decide +kernel
theorem dX11_opens_26 : decode cX11_opens 26 = .ok (.iinc 3 (-1), 3) := by decide +kernel
theorem dX11_opens_29 : decode cX11_opens 29 = .ok (.goto (-22), 3) := by decide +kernel
theorem dX11_opens_32 : decode cX11_opens 32 = .ok (.aload_n 0, 1) := by decide +kernel
theorem dX11_opens_33 : decode cX11_opens 33 = .ok (.getfield 7, 3) := by decide +kernel
theorem dX11_opens_36 : decode cX11_opens 36 = .ok (.sipush 200, 3) := by decide +kernel
theorem dX11_opens_39 : decode cX11_opens 39 = .ok (.dup2, 1) := by decide +kernel
theorem dX11_opens_40 : decode cX11_opens 40 = .ok (.iaload, 1) := by decide +kernel
theorem dX11_opens_41 : decode cX11_opens 41 = .ok (.iload_n 2, 1) := by decide +kernel
theorem dX11_opens_42 : decode cX11_opens 42 = .ok (.iadd, 1) := by decide +kernel
theorem dX11_opens_43 : decode cX11_opens 43 = .ok (.iastore, 1) := by decide +kernel
theorem dX11_opens_44 : decode cX11_opens 44 = .ok (.iconst 0, 1) := by decide +kernel
theorem dX11_opens_45 : decode cX11_opens 45 = .ok (.istore_n 3, 1) := by decide +kernel
theorem dX11_opens_46 : decode cX11_opens 46 = .ok (.iload_n 3, 1) := by decide +kernel
theorem dX11_opens_47 : decode cX11_opens 47 = .ok (.iconst 4, 1) := by decide +kernel
theorem dX11_opens_48 : decode cX11_opens 48 = .ok (.if_icmp .ge 38, 3) := by decide +kernel
theorem dX11_opens_51 : decode cX11_opens 51 = .ok (.aload_n 0, 1) := by decide +kernel
theorem dX11_opens_52 : decode cX11_opens 52 = .ok (.iload_n 3, 1) := by decide +kernel
theorem dX11_opens_53 : decode cX11_opens 53 = .ok (.invokevirtual 204, 3) := by decide +kernel
theorem dX11_opens_56 : decode cX11_opens 56 = .ok (.ifCond .eq 24, 3) := by decide +kernel
theorem dX11_opens_59 : decode cX11_opens 59 = .ok (.aload_n 0, 1) := by decide +kernel
theorem dX11_opens_60 : decode cX11_opens 60 = .ok (.iload_n 3, 1) := by decide +kernel
theorem dX11_opens_61 : decode cX11_opens 61 = .ok (.invokevirtual 275, 3) := by decide +kernel
theorem dX11_opens_64 : decode cX11_opens 64 = .ok (.iload_n 1, 1) := by decide +kernel
theorem dX11_opens_65 : decode cX11_opens 65 = .ok (.if_icmp .le 15, 3) := by decide +kernel
theorem dX11_opens_68 : decode cX11_opens 68 = .ok (.aload_n 0, 1) := by decide +kernel
theorem dX11_opens_69 : decode cX11_opens 69 = .ok (.iload_n 3, 1) := by decide +kernel
theorem dX11_opens_70 : decode cX11_opens 70 = .ok (.aload_n 0, 1) := by decide +kernel
theorem dX11_opens_71 : decode cX11_opens 71 = .ok (.iload_n 3, 1) := by decide +kernel
theorem dX11_opens_72 : decode cX11_opens 72 = .ok (.invokevirtual 275, 3) := by decide +kernel
theorem dX11_opens_75 : decode cX11_opens 75 = .ok (.iload_n 2, 1) := by decide +kernel
theorem dX11_opens_76 : decode cX11_opens 76 = .ok (.iadd, 1) := by decide +kernel
theorem dX11_opens_77 : decode cX11_opens 77 = .ok (.invokevirtual 323, 3) := by decide +kernel
theorem dX11_opens_80 : decode cX11_opens 80 = .ok (.iinc 3 1, 3) := by decide +kernel
theorem dX11_opens_83 : decode cX11_opens 83 = .ok (.goto (-37), 3) := by decide +kernel
theorem dX11_opens_86 : decode cX11_opens 86 = .ok (.return_, 1) := by decide +kernel
theorem vc_X11_opens_0 {G : zG} {d : Nat} {Q : Option zV → zHp → Prop} (p1 : Int) (p2 : Int) (h : zHp) (hS : zSh h) (hd : 2 ≤ d) (I_7 : Int → Int → Int → zHp → Prop) (hI_7 : ∀ (y1 : Int) (y2 : Int) (y3 : Int) (h' : zHp), I_7 y1 y2 y3 h' → wpN G d M_X11_opens 7 [(0, vR 343), (1, vI y1), (2, vI y2), (3, vI y3)] [] h' Q) 
    (hv : (wpN G (d - 1) M_X11_size 0 (zar 0 [vR 343]) [] h (qI (fun z1 h2 => zSh h2 ∧ ((-2147483648 ≤ z1 - 1 ∧ z1 - 1 ≤ 2147483647) ∧ (∀ x5 : Int, x5 = (z1 - 1) → (zSh h2 → I_7 p1 p2 x5 h2))))))) : wpN G d M_X11_opens 0 [(0, vR 343), (1, vI p1), (2, vI p2)] [] h Q := by
  refine wq_aload_n 0 rfl rfl dX11_opens_0 ?_
  refine wN_V (As := []) vm_X11_size lk_X11_218 tT_343 rfl rfl (Nat.le_of_ble_eq_true rfl) (Nat.le_of_ble_eq_true rfl) (d' := d - 1) (by omega) dX11_opens_1 hv (fun v9 h2 q3 => ?_)
  obtain ⟨z1, rfl, hS4, q3⟩ := q3
  refine wq_st (st' := [vI z1]) rfl ?_
  refine wq_iconst (z := 1) (zlit rfl) dX11_opens_4 ?_
  refine wq_isub q3.1 dX11_opens_5 ?_
  refine wq_topI (fun x5 e6 => ?_)
  refine wq_istore_n (ls' := [(0, vR 343), (1, vI p1), (2, vI p2), (3, vI x5)]) rfl (by decide) rfl dX11_opens_6 ?_
  exact wq_pick [0, 1, 2, 3] rfl (hI_7 p1 p2 x5 h2 ((q3.2 x5 e6) hS4))
theorem vc_X11_opens_7 {G : zG} {d : Nat} {Q : Option zV → zHp → Prop} (y1 : Int) (y2 : Int) (y3 : Int) (h : zHp) (hS : zSh h) (hd : 2 ≤ d) (I_7 : Int → Int → Int → zHp → Prop) (hI_7 : ∀ (y1 : Int) (y2 : Int) (y3 : Int) (h' : zHp), I_7 y1 y2 y3 h' → wpN G d M_X11_opens 7 [(0, vR 343), (1, vI y1), (2, vI y2), (3, vI y3)] [] h' Q) (I_46 : Int → Int → Int → zHp → Prop) (hI_46 : ∀ (y1 : Int) (y2 : Int) (y3 : Int) (h' : zHp), I_46 y1 y2 y3 h' → wpN G d M_X11_opens 46 [(0, vR 343), (1, vI y1), (2, vI y2), (3, vI y3)] [] h' Q) 
    (hv : ((y3 < y1 → ((-2147483648 ≤ (gI h 344 200) + y2 ∧ (gI h 344 200) + y2 ≤ 2147483647) ∧ (∀ h2 : zHp, h2 = sI h 344 200 ((gI h 344 200) + y2) → (zSh h2 → I_46 y1 y2 0 h2)))) ∧ (y1 ≤ y3 → ((-2147483648 ≤ y3 + y2 ∧ y3 + y2 ≤ 2147483647) ∧ (((0 : Int) ≤ y3 ∧ y3 < ((213 : Nat) : Int)) ∧ (((0 : Int) ≤ (y3 + y2) ∧ (y3 + y2) < ((213 : Nat) : Int)) ∧ (∀ h4 : zHp, h4 = sI h 344 (y3 + y2).toNat (gI h 344 y3.toNat) → ((-2147483648 ≤ y3 + (-1) ∧ y3 + (-1) ≤ 2147483647) ∧ ∀ x6 : Int, x6 = y3 + (-1) → (zSh h4 → I_7 y1 y2 x6 h4))))))))) : wpN G d M_X11_opens 7 [(0, vR 343), (1, vI y1), (2, vI y2), (3, vI y3)] [] h Q := by
  refine wq_iload_n 3 rfl rfl dX11_opens_7 ?_
  refine wq_iload_n 1 rfl rfl dX11_opens_8 ?_
  refine wq_icmp_lt 32 rfl dX11_opens_9 (fun c1 => ?_) (fun c1 => ?_)
  · refine wq_aload_n 0 rfl rfl dX11_opens_32 ?_
    refine wq_getR fk_X11_7 tT_343 (fun _ _ _ => rfl) (sh_11_0 hS) (by decide) dX11_opens_33 ?_
    refine wq_sipush (z := 200) (zlit rfl) rfl dX11_opens_36 ?_
    refine wq_dup2 rfl rfl dX11_opens_39 ?_
    refine wq_iald tT_344 (by decide) (by decide) dX11_opens_40 ?_
    refine wq_iload_n 2 rfl rfl dX11_opens_41 ?_
    refine wq_iadd (hv.1 c1).1 dX11_opens_42 ?_
    refine wq_iast tT_344 (by decide) (by decide) dX11_opens_43 ?_
    refine wq_toph (fun h2 e3 => ?_)
    have sh2 : zSh h2 := zSh_of e3 hS
    refine wq_iconst (z := 0) (zlit rfl) dX11_opens_44 ?_
    refine wq_istore_n (ls' := [(0, vR 343), (1, vI y1), (2, vI y2), (3, vI 0)]) rfl (by decide) rfl dX11_opens_45 ?_
    exact wq_pick [0, 1, 2, 3] rfl (hI_46 y1 y2 0 h2 (((hv.1 c1).2 h2 e3) sh2))
  · refine wq_aload_n 0 rfl rfl dX11_opens_12 ?_
    refine wq_getR fk_X11_7 tT_343 (fun _ _ _ => rfl) (sh_11_0 hS) (by decide) dX11_opens_13 ?_
    refine wq_iload_n 3 rfl rfl dX11_opens_16 ?_
    refine wq_iload_n 2 rfl rfl dX11_opens_17 ?_
    refine wq_iadd (hv.2 c1).1 dX11_opens_18 ?_
    refine wq_aload_n 0 rfl rfl dX11_opens_19 ?_
    refine wq_getR fk_X11_7 tT_343 (fun _ _ _ => rfl) (sh_11_0 hS) (by decide) dX11_opens_20 ?_
    refine wq_iload_n 3 rfl rfl dX11_opens_23 ?_
    refine wq_iald tT_344 (hv.2 c1).2.1.1 (hv.2 c1).2.1.2 dX11_opens_24 ?_
    refine wq_iast tT_344 (hv.2 c1).2.2.1.1 (hv.2 c1).2.2.1.2 dX11_opens_25 ?_
    refine wq_toph (fun h4 e5 => ?_)
    have sh4 : zSh h4 := zSh_of e5 hS
    refine z_nm (y3 + (-1)) (fun x6 e7 => ?_)
    refine wq_iinc (y := x6) (ls' := [(0, vR 343), (1, vI y1), (2, vI y2), (3, vI x6)]) 3 rfl e7.symm (by rw [e7]; exact ((hv.2 c1).2.2.2 h4 e5).1) (by decide) rfl dX11_opens_26 ?_
    refine wq_goto 7 rfl dX11_opens_29 ?_
    exact wq_pick [0, 1, 2, 3] rfl (hI_7 y1 y2 x6 h4 ((((hv.2 c1).2.2.2 h4 e5).2 x6 e7) sh4))
theorem vc_X11_opens_46 {G : zG} {d : Nat} {Q : Option zV → zHp → Prop} (y1 : Int) (y2 : Int) (y3 : Int) (h : zHp) (hS : zSh h) (hd : 2 ≤ d) (I_46 : Int → Int → Int → zHp → Prop) (hI_46 : ∀ (y1 : Int) (y2 : Int) (y3 : Int) (h' : zHp), I_46 y1 y2 y3 h' → wpN G d M_X11_opens 46 [(0, vR 343), (1, vI y1), (2, vI y2), (3, vI y3)] [] h' Q) 
    (hv : ((4 ≤ y3 → Q none h) ∧ (y3 < 4 → (wpN G (d - 1) M_X11_isPresent 0 (zar 0 [vR 343, vI y3]) [] h (qI (fun z2 h3 => zSh h3 ∧ ((z2 = 0 → ((-2147483648 ≤ y3 + 1 ∧ y3 + 1 ≤ 2147483647) ∧ ∀ x7 : Int, x7 = y3 + 1 → (zSh h3 → I_46 y1 y2 x7 h3))) ∧ (z2 ≠ 0 → (wpN G (d - 1) M_X11_offsetOf 0 (zar 0 [vR 343, vI y3]) [] h3 (qI (fun z9 h10 => zSh h10 ∧ ((z9 ≤ y1 → ((-2147483648 ≤ y3 + 1 ∧ y3 + 1 ≤ 2147483647) ∧ ∀ x14 : Int, x14 = y3 + 1 → (zSh h10 → I_46 y1 y2 x14 h10))) ∧ (y1 < z9 → (wpN G (d - 1) M_X11_offsetOf 0 (zar 0 [vR 343, vI y3]) [] h10 (qI (fun z16 h17 => zSh h17 ∧ ((-2147483648 ≤ z16 + y2 ∧ z16 + y2 ≤ 2147483647) ∧ (wpN G (d - 1) M_X11_moves 0 (zar 0 [vR 343, vI y3, vI (z16 + y2)]) [] h17 (qV (fun h21 => zSh h21 ∧ ((-2147483648 ≤ y3 + 1 ∧ y3 + 1 ≤ 2147483647) ∧ ∀ x24 : Int, x24 = y3 + 1 → (zSh h21 → I_46 y1 y2 x24 h21)))))))))))))))))))))) : wpN G d M_X11_opens 46 [(0, vR 343), (1, vI y1), (2, vI y2), (3, vI y3)] [] h Q := by
  refine wq_iload_n 3 rfl rfl dX11_opens_46 ?_
  refine wq_iconst (z := 4) (zlit rfl) dX11_opens_47 ?_
  refine wq_icmp_ge 86 rfl dX11_opens_48 (fun c1 => ?_) (fun c1 => ?_)
  · exact wp_vret rfl dX11_opens_86 (hv.1 c1)
  · refine wq_aload_n 0 rfl rfl dX11_opens_51 ?_
    refine wq_iload_n 3 rfl rfl dX11_opens_52 ?_
    refine wN_V (As := [vI y3]) vm_X11_isPresent lk_X11_204 tT_343 rfl rfl (Nat.le_of_ble_eq_true rfl) (Nat.le_of_ble_eq_true rfl) (d' := d - 1) (by omega) dX11_opens_53 (hv.2 c1) (fun v9 h3 q4 => ?_)
    obtain ⟨z2, rfl, hS5, q4⟩ := q4
    refine wq_st (st' := [vI z2]) rfl ?_
    refine wq_if_eq 80 rfl dX11_opens_56 (fun c6 => ?_) (fun c6 => ?_)
    · refine z_nm (y3 + 1) (fun x7 e8 => ?_)
      refine wq_iinc (y := x7) (ls' := [(0, vR 343), (1, vI y1), (2, vI y2), (3, vI x7)]) 3 rfl e8.symm (by rw [e8]; exact (q4.1 c6).1) (by decide) rfl dX11_opens_80 ?_
      refine wq_goto 46 rfl dX11_opens_83 ?_
      exact wq_pick [0, 1, 2, 3] rfl (hI_46 y1 y2 x7 h3 (((q4.1 c6).2 x7 e8) hS5))
    · refine wq_aload_n 0 rfl rfl dX11_opens_59 ?_
      refine wq_iload_n 3 rfl rfl dX11_opens_60 ?_
      refine wN_V (As := [vI y3]) vm_X11_offsetOf lk_X11_275 tT_343 rfl rfl (Nat.le_of_ble_eq_true rfl) (Nat.le_of_ble_eq_true rfl) (d' := d - 1) (by omega) dX11_opens_61 (q4.2 c6) (fun v9 h10 q11 => ?_)
      obtain ⟨z9, rfl, hS12, q11⟩ := q11
      refine wq_st (st' := [vI z9]) rfl ?_
      refine wq_iload_n 1 rfl rfl dX11_opens_64 ?_
      refine wq_icmp_le 80 rfl dX11_opens_65 (fun c13 => ?_) (fun c13 => ?_)
      · refine z_nm (y3 + 1) (fun x14 e15 => ?_)
        refine wq_iinc (y := x14) (ls' := [(0, vR 343), (1, vI y1), (2, vI y2), (3, vI x14)]) 3 rfl e15.symm (by rw [e15]; exact (q11.1 c13).1) (by decide) rfl dX11_opens_80 ?_
        refine wq_goto 46 rfl dX11_opens_83 ?_
        exact wq_pick [0, 1, 2, 3] rfl (hI_46 y1 y2 x14 h10 (((q11.1 c13).2 x14 e15) hS12))
      · refine wq_aload_n 0 rfl rfl dX11_opens_68 ?_
        refine wq_iload_n 3 rfl rfl dX11_opens_69 ?_
        refine wq_aload_n 0 rfl rfl dX11_opens_70 ?_
        refine wq_iload_n 3 rfl rfl dX11_opens_71 ?_
        refine wN_V (As := [vI y3]) vm_X11_offsetOf lk_X11_275 tT_343 rfl rfl (Nat.le_of_ble_eq_true rfl) (Nat.le_of_ble_eq_true rfl) (d' := d - 1) (by omega) dX11_opens_72 (q11.2 c13) (fun v9 h17 q18 => ?_)
        obtain ⟨z16, rfl, hS19, q18⟩ := q18
        refine wq_st (st' := [vI z16, vI y3, vR 343]) rfl ?_
        refine wq_iload_n 2 rfl rfl dX11_opens_75 ?_
        refine wq_iadd q18.1 dX11_opens_76 ?_
        refine wN_V (As := [vI y3, vI (z16 + y2)]) vm_X11_moves lk_X11_323 tT_343 rfl rfl (Nat.le_of_ble_eq_true rfl) (Nat.le_of_ble_eq_true rfl) (d' := d - 1) (by omega) dX11_opens_77 q18.2 (fun v9 h21 q22 => ?_)
        obtain ⟨rfl, hS23, q22⟩ := q22
        refine wq_st (st' := []) rfl ?_
        refine z_nm (y3 + 1) (fun x24 e25 => ?_)
        refine wq_iinc (y := x24) (ls' := [(0, vR 343), (1, vI y1), (2, vI y2), (3, vI x24)]) 3 rfl e25.symm (by rw [e25]; exact q22.1) (by decide) rfl dX11_opens_80 ?_
        refine wq_goto 46 rfl dX11_opens_83 ?_
        exact wq_pick [0, 1, 2, 3] rfl (hI_46 y1 y2 x24 h21 ((q22.2 x24 e25) hS23))
theorem dX11_insert_0 : decode cX11_insert 0 = .ok (.iload_n 1, 1) := by decide +kernel
theorem dX11_insert_1 : decode cX11_insert 1 = .ok (.i2l, 1) := by decide +kernel
theorem dX11_insert_2 : decode cX11_insert 2 = .ok (.lconst 0, 1) := by decide +kernel
theorem dX11_insert_3 : decode cX11_insert 3 = .ok (.aload_n 0, 1) := by decide +kernel
theorem dX11_insert_4 : decode cX11_insert 4 = .ok (.invokevirtual 218, 3) := by decide +kernel
theorem dX11_insert_7 : decode cX11_insert 7 = .ok (.i2l, 1) := by decide +kernel
theorem dX11_insert_8 : decode cX11_insert 8 = .ok (.invokestatic 91, 3) := by decide +kernel
theorem dX11_insert_11 : decode cX11_insert 11 = .ok (.ifCond .eq 27, 3) := by decide +kernel
theorem dX11_insert_14 : decode cX11_insert 14 = .ok (.iload_n 2, 1) := by decide +kernel
theorem dX11_insert_15 : decode cX11_insert 15 = .ok (.i2l, 1) := by decide +kernel
theorem dX11_insert_16 : decode cX11_insert 16 = .ok (.lconst 0, 1) := by decide +kernel
theorem dX11_insert_17 : decode cX11_insert 17 = .ok (.ldc2_w 293, 3) := by decide +kernel
theorem dX11_insert_20 : decode cX11_insert 20 = .ok (.invokestatic 91, 3) := by decide +kernel
theorem dX11_insert_23 : decode cX11_insert 23 = .ok (.ifCond .eq 15, 3) := by decide +kernel
theorem dX11_insert_26 : decode cX11_insert 26 = .ok (.iload_n 3, 1) := by decide +kernel
theorem dX11_insert_27 : decode cX11_insert 27 = .ok (.i2l, 1) := by decide +kernel
theorem dX11_insert_28 : decode cX11_insert 28 = .ok (.lconst 1, 1) := by decide +kernel
theorem dX11_insert_29 : decode cX11_insert 29 = .ok (.ldc2_w 326, 3) := by decide +kernel
theorem dX11_insert_32 : decode cX11_insert 32 = .ok (.invokestatic 91, 3) := by decide +kernel
theorem dX11_insert_35 : decode cX11_insert 35 = .ok (.ifCond .ne 7, 3) := by decide +kernel
theorem dX11_insert_38 : decode cX11_insert 38 = .ok (.sipush (-1001), 3) := by decide +kernel
theorem dX11_insert_41 : decode cX11_insert 41 = .ok (.ireturn, 1) := by decide +kernel
theorem dX11_insert_42 : decode cX11_insert 42 = .ok (.aload_n 0, 1) := by decide +kernel
theorem dX11_insert_43 : decode cX11_insert 43 = .ok (.invokevirtual 218, 3) := by decide +kernel
theorem dX11_insert_46 : decode cX11_insert 46 = .ok (.iload_n 3, 1) := by decide +kernel
theorem dX11_insert_47 : decode cX11_insert 47 = .ok (.iadd, 1) := by decide +kernel
theorem dX11_insert_48 : decode cX11_insert 48 = .ok (.sipush 200, 3) := by decide +kernel
theorem dX11_insert_51 : decode cX11_insert 51 = .ok (.if_icmp .le 7, 3) := by decide +kernel
theorem dX11_insert_54 : decode cX11_insert 54 = .ok (.sipush (-1003), 3) := by decide +kernel
theorem dX11_insert_57 : decode cX11_insert 57 = .ok (.ireturn, 1) := by decide +kernel
theorem dX11_insert_58 : decode cX11_insert 58 = .ok (.aload_n 0, 1) := by decide +kernel
theorem dX11_insert_59 : decode cX11_insert 59 = .ok (.invokevirtual 328, 3) := by decide +kernel
theorem dX11_insert_62 : decode cX11_insert 62 = .ok (.aload_n 0, 1) := by decide +kernel
theorem dX11_insert_63 : decode cX11_insert 63 = .ok (.iload_n 1, 1) := by decide +kernel
theorem dX11_insert_64 : decode cX11_insert 64 = .ok (.iload_n 3, 1) := by decide +kernel
theorem dX11_insert_65 : decode cX11_insert 65 = .ok (.invokevirtual 331, 3) := by decide +kernel
theorem dX11_insert_68 : decode cX11_insert 68 = .ok (.iconst 0, 1) := by decide +kernel
theorem dX11_insert_69 : decode cX11_insert 69 = .ok (.istore 4, 2) := by decide +kernel
theorem dX11_insert_71 : decode cX11_insert 71 = .ok (.iload 4, 2) := by decide +kernel
theorem dX11_insert_73 : decode cX11_insert 73 = .ok (.iload_n 3, 1) := by decide +kernel
theorem dX11_insert_74 : decode cX11_insert 74 = .ok (.if_icmp .ge 19, 3) := by decide +kernel
theorem dX11_insert_77 : decode cX11_insert 77 = .ok (.aload_n 0, 1) := by decide +kernel
theorem dX11_insert_78 : decode cX11_insert 78 = .ok (.getfield 7, 3) := by decide +kernel
theorem dX11_insert_81 : decode cX11_insert 81 = .ok (.iload_n 1, 1) := by decide +kernel
theorem dX11_insert_82 : decode cX11_insert 82 = .ok (.iload 4, 2) := by decide +kernel
theorem dX11_insert_84 : decode cX11_insert 84 = .ok (.iadd, 1) := by decide +kernel
theorem dX11_insert_85 : decode cX11_insert 85 = .ok (.iload_n 2, 1) := by decide +kernel
theorem dX11_insert_86 : decode cX11_insert 86 = .ok (.iastore, 1) := by decide +kernel
theorem dX11_insert_87 : decode cX11_insert 87 = .ok (.iinc 4 1, 3) := by decide +kernel
theorem dX11_insert_90 : decode cX11_insert 90 = .ok (.goto (-19), 3) := by decide +kernel
theorem dX11_insert_93 : decode cX11_insert 93 = .ok (.aload_n 0, 1) := by decide +kernel
theorem dX11_insert_94 : decode cX11_insert 94 = .ok (.iconst 1, 1) := by decide +kernel
theorem dX11_insert_95 : decode cX11_insert 95 = .ok (.invokevirtual 334, 3) := by decide +kernel
theorem dX11_insert_98 : decode cX11_insert 98 = .ok (.ifCond .eq 10, 3) := by decide +kernel
theorem dX11_insert_101 : decode cX11_insert 101 = .ok (.aload_n 0, 1) := by decide +kernel
theorem dX11_insert_102 : decode cX11_insert 102 = .ok (.invokevirtual 218, 3) := by decide +kernel
theorem dX11_insert_105 : decode cX11_insert 105 = .ok (.goto 6, 3) := by decide +kernel
theorem dX11_insert_108 : decode cX11_insert 108 = .ok (.sipush (-1005), 3) := by decide +kernel
theorem dX11_insert_111 : decode cX11_insert 111 = .ok (.ireturn, 1) := by decide +kernel
theorem vc_X11_insert_0 {G : zG} {d : Nat} {Q : Option zV → zHp → Prop} (p1 : Int) (p2 : Int) (p3 : Int) (h : zHp) (hS : zSh h) (hd : 8 ≤ d) (I_71 : Int → Int → Int → Int → zHp → Prop) (hI_71 : ∀ (y1 : Int) (y2 : Int) (y3 : Int) (y4 : Int) (h' : zHp), I_71 y1 y2 y3 y4 h' → wpN G d M_X11_insert 71 [(0, vR 343), (1, vI y1), (2, vI y2), (3, vI y3), (4, vI y4)] [] h' Q) 
    (hv : (wpN G (d - 1) M_X11_size 0 (zar 0 [vR 343]) [] h (qI (fun z1 h2 => zSh h2 ∧ (wpN G (d - 1) M_X11_in 0 (zar 0 [vL p1, vL 0, vL z1]) [] h2 (qI (fun z5 h6 => zSh h6 ∧ ((z5 = 0 → Q (some (vI (-1001))) h6) ∧ (z5 ≠ 0 → (wpN G (d - 1) M_X11_in 0 (zar 0 [vL p2, vL 0, vL 255]) [] h6 (qI (fun z10 h11 => zSh h11 ∧ ((z10 = 0 → Q (some (vI (-1001))) h11) ∧ (z10 ≠ 0 → (wpN G (d - 1) M_X11_in 0 (zar 0 [vL p3, vL 1, vL 64]) [] h11 (qI (fun z15 h16 => zSh h16 ∧ ((z15 ≠ 0 → (wpN G (d - 1) M_X11_size 0 (zar 0 [vR 343]) [] h16 (qI (fun z20 h21 => zSh h21 ∧ ((-2147483648 ≤ z20 + p3 ∧ z20 + p3 ≤ 2147483647) ∧ (((z20 + p3) ≤ 200 → (wpN G (d - 1) M_X11_keeps 0 (zar 0 [vR 343]) [] h21 (qV (fun h26 => zSh h26 ∧ (wpN G (d - 1) M_X11_opens 0 (zar 0 [vR 343, vI p1, vI p3]) [] h26 (qV (fun h30 => zSh h30 ∧ (zSh h30 → I_71 p1 p2 p3 0 h30)))))))) ∧ (200 < (z20 + p3) → Q (some (vI (-1003))) h21))))))) ∧ (z15 = 0 → Q (some (vI (-1001))) h16))))))))))))))))))) : wpN G d M_X11_insert 0 [(0, vR 343), (1, vI p1), (2, vI p2), (3, vI p3)] [] h Q := by
  refine wq_iload_n 1 rfl rfl dX11_insert_0 ?_
  refine wq_i2l dX11_insert_1 ?_
  refine wq_lconst (z := 0) (zlitL rfl) rfl dX11_insert_2 ?_
  refine wq_aload_n 0 rfl rfl dX11_insert_3 ?_
  refine wN_V (As := []) vm_X11_size lk_X11_218 tT_343 rfl rfl (Nat.le_of_ble_eq_true rfl) (Nat.le_of_ble_eq_true rfl) (d' := d - 1) (by omega) dX11_insert_4 hv (fun v9 h2 q3 => ?_)
  obtain ⟨z1, rfl, hS4, q3⟩ := q3
  refine wq_st (st' := [vI z1, vL 0, vL p1]) rfl ?_
  refine wq_i2l dX11_insert_7 ?_
  refine wN_S (As := [vL p1, vL 0, vL z1]) md_X11_in ms_X11_in lk_X11_91 rfl rfl (Nat.le_of_ble_eq_true rfl) (Nat.le_of_ble_eq_true rfl) (d' := d - 1) (by omega) dX11_insert_8 q3 (fun v9 h6 q7 => ?_)
  obtain ⟨z5, rfl, hS8, q7⟩ := q7
  refine wq_st (st' := [vI z5]) rfl ?_
  refine wq_if_eq 38 rfl dX11_insert_11 (fun c9 => ?_) (fun c9 => ?_)
  · refine wq_sipush (z := -1001) (zlit rfl) rfl dX11_insert_38 ?_
    exact wp_iret rfl dX11_insert_41 (q7.1 c9)
  · refine wq_iload_n 2 rfl rfl dX11_insert_14 ?_
    refine wq_i2l dX11_insert_15 ?_
    refine wq_lconst (z := 0) (zlitL rfl) rfl dX11_insert_16 ?_
    refine wq_ldc2_w (z := 255) (zlitL rfl) kc_X11_293 dX11_insert_17 ?_
    refine wN_S (As := [vL p2, vL 0, vL 255]) md_X11_in ms_X11_in lk_X11_91 rfl rfl (Nat.le_of_ble_eq_true rfl) (Nat.le_of_ble_eq_true rfl) (d' := d - 1) (by omega) dX11_insert_20 (q7.2 c9) (fun v9 h11 q12 => ?_)
    obtain ⟨z10, rfl, hS13, q12⟩ := q12
    refine wq_st (st' := [vI z10]) rfl ?_
    refine wq_if_eq 38 rfl dX11_insert_23 (fun c14 => ?_) (fun c14 => ?_)
    · refine wq_sipush (z := -1001) (zlit rfl) rfl dX11_insert_38 ?_
      exact wp_iret rfl dX11_insert_41 (q12.1 c14)
    · refine wq_iload_n 3 rfl rfl dX11_insert_26 ?_
      refine wq_i2l dX11_insert_27 ?_
      refine wq_lconst (z := 1) (zlitL rfl) rfl dX11_insert_28 ?_
      refine wq_ldc2_w (z := 64) (zlitL rfl) kc_X11_326 dX11_insert_29 ?_
      refine wN_S (As := [vL p3, vL 1, vL 64]) md_X11_in ms_X11_in lk_X11_91 rfl rfl (Nat.le_of_ble_eq_true rfl) (Nat.le_of_ble_eq_true rfl) (d' := d - 1) (by omega) dX11_insert_32 (q12.2 c14) (fun v9 h16 q17 => ?_)
      obtain ⟨z15, rfl, hS18, q17⟩ := q17
      refine wq_st (st' := [vI z15]) rfl ?_
      refine wq_if_ne 42 rfl dX11_insert_35 (fun c19 => ?_) (fun c19 => ?_)
      · refine wq_aload_n 0 rfl rfl dX11_insert_42 ?_
        refine wN_V (As := []) vm_X11_size lk_X11_218 tT_343 rfl rfl (Nat.le_of_ble_eq_true rfl) (Nat.le_of_ble_eq_true rfl) (d' := d - 1) (by omega) dX11_insert_43 (q17.1 c19) (fun v9 h21 q22 => ?_)
        obtain ⟨z20, rfl, hS23, q22⟩ := q22
        refine wq_st (st' := [vI z20]) rfl ?_
        refine wq_iload_n 3 rfl rfl dX11_insert_46 ?_
        refine wq_iadd q22.1 dX11_insert_47 ?_
        refine wq_sipush (z := 200) (zlit rfl) rfl dX11_insert_48 ?_
        refine wq_icmp_le 58 rfl dX11_insert_51 (fun c24 => ?_) (fun c24 => ?_)
        · refine wq_aload_n 0 rfl rfl dX11_insert_58 ?_
          refine wN_V (As := []) vm_X11_keeps lk_X11_328 tT_343 rfl rfl (Nat.le_of_ble_eq_true rfl) (Nat.le_of_ble_eq_true rfl) (d' := d - 1) (by omega) dX11_insert_59 (q22.2.1 c24) (fun v9 h26 q27 => ?_)
          obtain ⟨rfl, hS28, q27⟩ := q27
          refine wq_st (st' := []) rfl ?_
          refine wq_aload_n 0 rfl rfl dX11_insert_62 ?_
          refine wq_iload_n 1 rfl rfl dX11_insert_63 ?_
          refine wq_iload_n 3 rfl rfl dX11_insert_64 ?_
          refine wN_V (As := [vI p1, vI p3]) vm_X11_opens lk_X11_331 tT_343 rfl rfl (Nat.le_of_ble_eq_true rfl) (Nat.le_of_ble_eq_true rfl) (d' := d - 1) (by omega) dX11_insert_65 q27 (fun v9 h30 q31 => ?_)
          obtain ⟨rfl, hS32, q31⟩ := q31
          refine wq_st (st' := []) rfl ?_
          refine wq_iconst (z := 0) (zlit rfl) dX11_insert_68 ?_
          refine wq_istore (ls' := [(0, vR 343), (1, vI p1), (2, vI p2), (3, vI p3), (4, vI 0)]) (by decide) rfl dX11_insert_69 ?_
          exact wq_pick [0, 1, 2, 3, 4] rfl (hI_71 p1 p2 p3 0 h30 (q31 hS32))
        · refine wq_sipush (z := -1003) (zlit rfl) rfl dX11_insert_54 ?_
          exact wp_iret rfl dX11_insert_57 (q22.2.2 c24)
      · refine wq_sipush (z := -1001) (zlit rfl) rfl dX11_insert_38 ?_
        exact wp_iret rfl dX11_insert_41 (q17.2 c19)
theorem vc_X11_insert_71 {G : zG} {d : Nat} {Q : Option zV → zHp → Prop} (y1 : Int) (y2 : Int) (y3 : Int) (y4 : Int) (h : zHp) (hS : zSh h) (hd : 8 ≤ d) (I_71 : Int → Int → Int → Int → zHp → Prop) (hI_71 : ∀ (y1 : Int) (y2 : Int) (y3 : Int) (y4 : Int) (h' : zHp), I_71 y1 y2 y3 y4 h' → wpN G d M_X11_insert 71 [(0, vR 343), (1, vI y1), (2, vI y2), (3, vI y3), (4, vI y4)] [] h' Q) 
    (hv : ((y3 ≤ y4 → (wpN G (d - 1) M_X11_stays 0 (zar 0 [vR 343, vI 1]) [] h (qI (fun z2 h3 => zSh h3 ∧ ((z2 = 0 → Q (some (vI (-1005))) h3) ∧ (z2 ≠ 0 → (wpN G (d - 1) M_X11_size 0 (zar 0 [vR 343]) [] h3 (qI (fun z7 h8 => zSh h8 ∧ Q (some (vI z7)) h8))))))))) ∧ (y4 < y3 → ((-2147483648 ≤ y1 + y4 ∧ y1 + y4 ≤ 2147483647) ∧ (((0 : Int) ≤ (y1 + y4) ∧ (y1 + y4) < ((213 : Nat) : Int)) ∧ (∀ h11 : zHp, h11 = sI h 344 (y1 + y4).toNat y2 → ((-2147483648 ≤ y4 + 1 ∧ y4 + 1 ≤ 2147483647) ∧ ∀ x13 : Int, x13 = y4 + 1 → (zSh h11 → I_71 y1 y2 y3 x13 h11)))))))) : wpN G d M_X11_insert 71 [(0, vR 343), (1, vI y1), (2, vI y2), (3, vI y3), (4, vI y4)] [] h Q := by
  refine wq_iload 4 rfl dX11_insert_71 ?_
  refine wq_iload_n 3 rfl rfl dX11_insert_73 ?_
  refine wq_icmp_ge 93 rfl dX11_insert_74 (fun c1 => ?_) (fun c1 => ?_)
  · refine wq_aload_n 0 rfl rfl dX11_insert_93 ?_
    refine wq_iconst (z := 1) (zlit rfl) dX11_insert_94 ?_
    refine wN_V (As := [vI 1]) vm_X11_stays lk_X11_334 tT_343 rfl rfl (Nat.le_of_ble_eq_true rfl) (Nat.le_of_ble_eq_true rfl) (d' := d - 1) (by omega) dX11_insert_95 (hv.1 c1) (fun v9 h3 q4 => ?_)
    obtain ⟨z2, rfl, hS5, q4⟩ := q4
    refine wq_st (st' := [vI z2]) rfl ?_
    refine wq_if_eq 108 rfl dX11_insert_98 (fun c6 => ?_) (fun c6 => ?_)
    · refine wq_sipush (z := -1005) (zlit rfl) rfl dX11_insert_108 ?_
      exact wp_iret rfl dX11_insert_111 (q4.1 c6)
    · refine wq_aload_n 0 rfl rfl dX11_insert_101 ?_
      refine wN_V (As := []) vm_X11_size lk_X11_218 tT_343 rfl rfl (Nat.le_of_ble_eq_true rfl) (Nat.le_of_ble_eq_true rfl) (d' := d - 1) (by omega) dX11_insert_102 (q4.2 c6) (fun v9 h8 q9 => ?_)
      obtain ⟨z7, rfl, hS10, q9⟩ := q9
      refine wq_st (st' := [vI z7]) rfl ?_
      refine wq_goto 111 rfl dX11_insert_105 ?_
      exact wp_iret rfl dX11_insert_111 q9
  · refine wq_aload_n 0 rfl rfl dX11_insert_77 ?_
    refine wq_getR fk_X11_7 tT_343 (fun _ _ _ => rfl) (sh_11_0 hS) (by decide) dX11_insert_78 ?_
    refine wq_iload_n 1 rfl rfl dX11_insert_81 ?_
    refine wq_iload 4 rfl dX11_insert_82 ?_
    refine wq_iadd (hv.2 c1).1 dX11_insert_84 ?_
    refine wq_iload_n 2 rfl rfl dX11_insert_85 ?_
    refine wq_iast tT_344 (hv.2 c1).2.1.1 (hv.2 c1).2.1.2 dX11_insert_86 ?_
    refine wq_toph (fun h11 e12 => ?_)
    have sh11 : zSh h11 := zSh_of e12 hS
    refine z_nm (y4 + 1) (fun x13 e14 => ?_)
    refine wq_iinc (y := x13) (ls' := [(0, vR 343), (1, vI y1), (2, vI y2), (3, vI y3), (4, vI x13)]) 4 rfl e14.symm (by rw [e14]; exact ((hv.2 c1).2.2 h11 e12).1) (by decide) rfl dX11_insert_87 ?_
    refine wq_goto 71 rfl dX11_insert_90 ?_
    exact wq_pick [0, 1, 2, 3, 4] rfl (hI_71 y1 y2 y3 x13 h11 ((((hv.2 c1).2.2 h11 e12).2 x13 e14) sh11))
theorem dX11_delete_0 : decode cX11_delete 0 = .ok (.iload_n 1, 1) := by decide +kernel
theorem dX11_delete_1 : decode cX11_delete 1 = .ok (.ifCond .lt 26, 3) := by decide +kernel
theorem dX11_delete_4 : decode cX11_delete 4 = .ok (.iload_n 2, 1) := by decide +kernel
theorem dX11_delete_5 : decode cX11_delete 5 = .ok (.iconst 1, 1) := by decide +kernel
theorem dX11_delete_6 : decode cX11_delete 6 = .ok (.if_icmp .lt 21, 3) := by decide +kernel
theorem dX11_delete_9 : decode cX11_delete 9 = .ok (.iload_n 2, 1) := by decide +kernel
theorem dX11_delete_10 : decode cX11_delete 10 = .ok (.aload_n 0, 1) := by decide +kernel
theorem dX11_delete_11 : decode cX11_delete 11 = .ok (.invokevirtual 218, 3) := by decide +kernel
theorem dX11_delete_14 : decode cX11_delete 14 = .ok (.if_icmp .gt 13, 3) := by decide +kernel
theorem dX11_delete_17 : decode cX11_delete 17 = .ok (.iload_n 1, 1) := by decide +kernel
theorem dX11_delete_18 : decode cX11_delete 18 = .ok (.aload_n 0, 1) := by decide +kernel
theorem dX11_delete_19 : decode cX11_delete 19 = .ok (.invokevirtual 218, 3) := by decide +kernel
theorem dX11_delete_22 : decode cX11_delete 22 = .ok (.iload_n 2, 1) := by decide +kernel
theorem dX11_delete_23 : decode cX11_delete 23 = .ok (.isub, 1) := by decide +kernel
theorem dX11_delete_24 : decode cX11_delete 24 = .ok (.if_icmp .le 7, 3) := by decide +kernel
theorem dX11_delete_27 : decode cX11_delete 27 = .ok (.sipush (-1001), 3) := by decide +kernel
theorem dX11_delete_30 : decode cX11_delete 30 = .ok (.ireturn, 1) := by decide +kernel
theorem dX11_delete_31 : decode cX11_delete 31 = .ok (.aload_n 0, 1) := by decide +kernel
theorem dX11_delete_32 : decode cX11_delete 32 = .ok (.invokevirtual 328, 3) := by decide +kernel
theorem dX11_delete_35 : decode cX11_delete 35 = .ok (.iload_n 1, 1) := by decide +kernel
theorem dX11_delete_36 : decode cX11_delete 36 = .ok (.iload_n 2, 1) := by decide +kernel
theorem dX11_delete_37 : decode cX11_delete 37 = .ok (.iadd, 1) := by decide +kernel
theorem dX11_delete_38 : decode cX11_delete 38 = .ok (.istore_n 3, 1) := by decide +kernel
theorem dX11_delete_39 : decode cX11_delete 39 = .ok (.iload_n 3, 1) := by decide +kernel
theorem dX11_delete_40 : decode cX11_delete 40 = .ok (.aload_n 0, 1) := by decide +kernel
theorem dX11_delete_41 : decode cX11_delete 41 = .ok (.invokevirtual 218, 3) := by decide +kernel
theorem dX11_delete_44 : decode cX11_delete 44 = .ok (.if_icmp .ge 23, 3) := by decide +kernel
theorem dX11_delete_47 : decode cX11_delete 47 = .ok (.aload_n 0, 1) := by decide +kernel
theorem dX11_delete_48 : decode cX11_delete 48 = .ok (.getfield 7, 3) := by decide +kernel
theorem dX11_delete_51 : decode cX11_delete 51 = .ok (.iload_n 3, 1) := by decide +kernel
theorem dX11_delete_52 : decode cX11_delete 52 = .ok (.iload_n 2, 1) := by decide +kernel
theorem dX11_delete_53 : decode cX11_delete 53 = .ok (.isub, 1) := by decide +kernel
theorem dX11_delete_54 : decode cX11_delete 54 = .ok (.aload_n 0, 1) := by decide +kernel
theorem dX11_delete_55 : decode cX11_delete 55 = .ok (.getfield 7, 3) := by decide +kernel
theorem dX11_delete_58 : decode cX11_delete 58 = .ok (.iload_n 3, 1) := by decide +kernel
theorem dX11_delete_59 : decode cX11_delete 59 = .ok (.iaload, 1) := by decide +kernel
theorem dX11_delete_60 : decode cX11_delete 60 = .ok (.iastore, 1) := by decide +kernel
theorem dX11_delete_61 : decode cX11_delete 61 = .ok (.iinc 3 1, 3) := by decide +kernel
theorem dX11_delete_64 : decode cX11_delete 64 = .ok (.goto (-25), 3) := by decide +kernel
theorem dX11_delete_67 : decode cX11_delete 67 = .ok (.aload_n 0, 1) := by decide +kernel
theorem dX11_delete_68 : decode cX11_delete 68 = .ok (.getfield 7, 3) := by decide +kernel
theorem dX11_delete_71 : decode cX11_delete 71 = .ok (.sipush 200, 3) := by decide +kernel
theorem dX11_delete_74 : decode cX11_delete 74 = .ok (.dup2, 1) := by decide +kernel
theorem dX11_delete_75 : decode cX11_delete 75 = .ok (.iaload, 1) := by decide +kernel
theorem dX11_delete_76 : decode cX11_delete 76 = .ok (.iload_n 2, 1) := by decide +kernel
theorem dX11_delete_77 : decode cX11_delete 77 = .ok (.isub, 1) := by decide +kernel
theorem dX11_delete_78 : decode cX11_delete 78 = .ok (.iastore, 1) := by decide +kernel
theorem dX11_delete_79 : decode cX11_delete 79 = .ok (.aload_n 0, 1) := by decide +kernel
theorem dX11_delete_80 : decode cX11_delete 80 = .ok (.invokevirtual 218, 3) := by decide +kernel
theorem dX11_delete_83 : decode cX11_delete 83 = .ok (.istore_n 3, 1) := by decide +kernel
theorem dX11_delete_84 : decode cX11_delete 84 = .ok (.iload_n 3, 1) := by decide +kernel
theorem dX11_delete_85 : decode cX11_delete 85 = .ok (.aload_n 0, 1) := by decide +kernel
theorem dX11_delete_86 : decode cX11_delete 86 = .ok (.invokevirtual 218, 3) := by decide +kernel
theorem dX11_delete_89 : decode cX11_delete 89 = .ok (.iload_n 2, 1) := by decide +kernel
theorem dX11_delete_90 : decode cX11_delete 90 = .ok (.iadd, 1) := by decide +kernel
theorem dX11_delete_91 : decode cX11_delete 91 = .ok (.if_icmp .ge 16, 3) := by decide +kernel
theorem dX11_delete_94 : decode cX11_delete 94 = .ok (.aload_n 0, 1) := by decide +kernel
theorem dX11_delete_95 : decode cX11_delete 95 = .ok (.getfield 7, 3) := by decide +kernel
theorem dX11_delete_98 : decode cX11_delete 98 = .ok (.iload_n 3, 1) := by decide +kernel
theorem dX11_delete_99 : decode cX11_delete 99 = .ok (.iconst 0, 1) := by decide +kernel
theorem dX11_delete_100 : decode cX11_delete 100 = .ok (.iastore, 1) := by decide +kernel
theorem dX11_delete_101 : decode cX11_delete 101 = .ok (.iinc 3 1, 3) := by decide +kernel
theorem dX11_delete_104 : decode cX11_delete 104 = .ok (.goto (-20), 3) := by decide +kernel
theorem dX11_delete_107 : decode cX11_delete 107 = .ok (.iconst 0, 1) := by decide +kernel
theorem dX11_delete_108 : decode cX11_delete 108 = .ok (.istore_n 3, 1) := by decide +kernel
theorem dX11_delete_109 : decode cX11_delete 109 = .ok (.iload_n 3, 1) := by decide +kernel
theorem dX11_delete_110 : decode cX11_delete 110 = .ok (.iconst 4, 1) := by decide +kernel
theorem dX11_delete_111 : decode cX11_delete 111 = .ok (.if_icmp .ge 53, 3) := by decide +kernel
theorem dX11_delete_114 : decode cX11_delete 114 = .ok (.aload_n 0, 1) := by decide +kernel
theorem dX11_delete_115 : decode cX11_delete 115 = .ok (.iload_n 3, 1) := by decide +kernel
theorem dX11_delete_116 : decode cX11_delete 116 = .ok (.invokevirtual 204, 3) := by decide +kernel
theorem dX11_delete_119 : decode cX11_delete 119 = .ok (.ifCond .eq 39, 3) := by decide +kernel
theorem dX11_delete_122 : decode cX11_delete 122 = .ok (.aload_n 0, 1) := by decide +kernel
theorem dX11_delete_123 : decode cX11_delete 123 = .ok (.iload_n 3, 1) := by decide +kernel
theorem dX11_delete_124 : decode cX11_delete 124 = .ok (.invokevirtual 275, 3) := by decide +kernel
theorem dX11_delete_127 : decode cX11_delete 127 = .ok (.iload_n 1, 1) := by decide +kernel
theorem dX11_delete_128 : decode cX11_delete 128 = .ok (.if_icmp .le 30, 3) := by decide +kernel
theorem dX11_delete_131 : decode cX11_delete 131 = .ok (.aload_n 0, 1) := by decide +kernel
theorem dX11_delete_132 : decode cX11_delete 132 = .ok (.iload_n 3, 1) := by decide +kernel
theorem dX11_delete_133 : decode cX11_delete 133 = .ok (.aload_n 0, 1) := by decide +kernel
theorem dX11_delete_134 : decode cX11_delete 134 = .ok (.iload_n 3, 1) := by decide +kernel
theorem dX11_delete_135 : decode cX11_delete 135 = .ok (.invokevirtual 275, 3) := by decide +kernel
theorem dX11_delete_138 : decode cX11_delete 138 = .ok (.iload_n 2, 1) := by decide +kernel
theorem dX11_delete_139 : decode cX11_delete 139 = .ok (.isub, 1) := by decide +kernel
theorem dX11_delete_140 : decode cX11_delete 140 = .ok (.iload_n 1, 1) := by decide +kernel
theorem dX11_delete_141 : decode cX11_delete 141 = .ok (.if_icmp .ge 7, 3) := by decide +kernel
theorem dX11_delete_144 : decode cX11_delete 144 = .ok (.iload_n 1, 1) := by decide +kernel
theorem dX11_delete_145 : decode cX11_delete 145 = .ok (.goto 10, 3) := by decide +kernel
theorem dX11_delete_148 : decode cX11_delete 148 = .ok (.aload_n 0, 1) := by decide +kernel
theorem dX11_delete_149 : decode cX11_delete 149 = .ok (.iload_n 3, 1) := by decide +kernel
theorem dX11_delete_150 : decode cX11_delete 150 = .ok (.invokevirtual 275, 3) := by decide +kernel
theorem dX11_delete_153 : decode cX11_delete 153 = .ok (.iload_n 2, 1) := by decide +kernel
theorem dX11_delete_154 : decode cX11_delete 154 = .ok (.isub, 1) := by decide +kernel
theorem dX11_delete_155 : decode cX11_delete 155 = .ok (.invokevirtual 323, 3) := by decide +kernel
theorem dX11_delete_158 : decode cX11_delete 158 = .ok (.iinc 3 1, 3) := by decide +kernel
theorem dX11_delete_161 : decode cX11_delete 161 = .ok (.goto (-52), 3) := by decide +kernel
theorem dX11_delete_164 : decode cX11_delete 164 = .ok (.aload_n 0, 1) := by decide +kernel
theorem dX11_delete_165 : decode cX11_delete 165 = .ok (.iconst 1, 1) := by decide +kernel
theorem dX11_delete_166 : decode cX11_delete 166 = .ok (.invokevirtual 334, 3) := by decide +kernel
theorem dX11_delete_169 : decode cX11_delete 169 = .ok (.ifCond .eq 10, 3) := by decide +kernel
theorem dX11_delete_172 : decode cX11_delete 172 = .ok (.aload_n 0, 1) := by decide +kernel
theorem dX11_delete_173 : decode cX11_delete 173 = .ok (.invokevirtual 218, 3) := by decide +kernel
theorem dX11_delete_176 : decode cX11_delete 176 = .ok (.goto 6, 3) := by decide +kernel
theorem dX11_delete_179 : decode cX11_delete 179 = .ok (.sipush (-1005), 3) := by decide +kernel
theorem dX11_delete_182 : decode cX11_delete 182 = .ok (.ireturn, 1) := by decide +kernel
theorem vc_X11_delete_0 {G : zG} {d : Nat} {Q : Option zV → zHp → Prop} (p1 : Int) (p2 : Int) (h : zHp) (hS : zSh h) (hd : 8 ≤ d) (I_39 : Int → Int → Int → zHp → Prop) (hI_39 : ∀ (y1 : Int) (y2 : Int) (y3 : Int) (h' : zHp), I_39 y1 y2 y3 h' → wpN G d M_X11_delete 39 [(0, vR 343), (1, vI y1), (2, vI y2), (3, vI y3)] [] h' Q) 
    (hv : ((p1 < 0 → Q (some (vI (-1001))) h) ∧ (0 ≤ p1 → ((p2 < 1 → Q (some (vI (-1001))) h) ∧ (1 ≤ p2 → (wpN G (d - 1) M_X11_size 0 (zar 0 [vR 343]) [] h (qI (fun z3 h4 => zSh h4 ∧ ((z3 < p2 → Q (some (vI (-1001))) h4) ∧ (p2 ≤ z3 → (wpN G (d - 1) M_X11_size 0 (zar 0 [vR 343]) [] h4 (qI (fun z8 h9 => zSh h9 ∧ ((-2147483648 ≤ z8 - p2 ∧ z8 - p2 ≤ 2147483647) ∧ ((p1 ≤ (z8 - p2) → (wpN G (d - 1) M_X11_keeps 0 (zar 0 [vR 343]) [] h9 (qV (fun h14 => zSh h14 ∧ ((-2147483648 ≤ p1 + p2 ∧ p1 + p2 ≤ 2147483647) ∧ (∀ x17 : Int, x17 = (p1 + p2) → (zSh h14 → I_39 p1 p2 x17 h14))))))) ∧ ((z8 - p2) < p1 → Q (some (vI (-1001))) h9)))))))))))))))) : wpN G d M_X11_delete 0 [(0, vR 343), (1, vI p1), (2, vI p2)] [] h Q := by
  refine wq_iload_n 1 rfl rfl dX11_delete_0 ?_
  refine wq_if_lt 27 rfl dX11_delete_1 (fun c1 => ?_) (fun c1 => ?_)
  · refine wq_sipush (z := -1001) (zlit rfl) rfl dX11_delete_27 ?_
    exact wp_iret rfl dX11_delete_30 (hv.1 c1)
  · refine wq_iload_n 2 rfl rfl dX11_delete_4 ?_
    refine wq_iconst (z := 1) (zlit rfl) dX11_delete_5 ?_
    refine wq_icmp_lt 27 rfl dX11_delete_6 (fun c2 => ?_) (fun c2 => ?_)
    · refine wq_sipush (z := -1001) (zlit rfl) rfl dX11_delete_27 ?_
      exact wp_iret rfl dX11_delete_30 ((hv.2 c1).1 c2)
    · refine wq_iload_n 2 rfl rfl dX11_delete_9 ?_
      refine wq_aload_n 0 rfl rfl dX11_delete_10 ?_
      refine wN_V (As := []) vm_X11_size lk_X11_218 tT_343 rfl rfl (Nat.le_of_ble_eq_true rfl) (Nat.le_of_ble_eq_true rfl) (d' := d - 1) (by omega) dX11_delete_11 ((hv.2 c1).2 c2) (fun v9 h4 q5 => ?_)
      obtain ⟨z3, rfl, hS6, q5⟩ := q5
      refine wq_st (st' := [vI z3, vI p2]) rfl ?_
      refine wq_icmp_gt 27 rfl dX11_delete_14 (fun c7 => ?_) (fun c7 => ?_)
      · refine wq_sipush (z := -1001) (zlit rfl) rfl dX11_delete_27 ?_
        exact wp_iret rfl dX11_delete_30 (q5.1 c7)
      · refine wq_iload_n 1 rfl rfl dX11_delete_17 ?_
        refine wq_aload_n 0 rfl rfl dX11_delete_18 ?_
        refine wN_V (As := []) vm_X11_size lk_X11_218 tT_343 rfl rfl (Nat.le_of_ble_eq_true rfl) (Nat.le_of_ble_eq_true rfl) (d' := d - 1) (by omega) dX11_delete_19 (q5.2 c7) (fun v9 h9 q10 => ?_)
        obtain ⟨z8, rfl, hS11, q10⟩ := q10
        refine wq_st (st' := [vI z8, vI p1]) rfl ?_
        refine wq_iload_n 2 rfl rfl dX11_delete_22 ?_
        refine wq_isub q10.1 dX11_delete_23 ?_
        refine wq_icmp_le 31 rfl dX11_delete_24 (fun c12 => ?_) (fun c12 => ?_)
        · refine wq_aload_n 0 rfl rfl dX11_delete_31 ?_
          refine wN_V (As := []) vm_X11_keeps lk_X11_328 tT_343 rfl rfl (Nat.le_of_ble_eq_true rfl) (Nat.le_of_ble_eq_true rfl) (d' := d - 1) (by omega) dX11_delete_32 (q10.2.1 c12) (fun v9 h14 q15 => ?_)
          obtain ⟨rfl, hS16, q15⟩ := q15
          refine wq_st (st' := []) rfl ?_
          refine wq_iload_n 1 rfl rfl dX11_delete_35 ?_
          refine wq_iload_n 2 rfl rfl dX11_delete_36 ?_
          refine wq_iadd q15.1 dX11_delete_37 ?_
          refine wq_topI (fun x17 e18 => ?_)
          refine wq_istore_n (ls' := [(0, vR 343), (1, vI p1), (2, vI p2), (3, vI x17)]) rfl (by decide) rfl dX11_delete_38 ?_
          exact wq_pick [0, 1, 2, 3] rfl (hI_39 p1 p2 x17 h14 ((q15.2 x17 e18) hS16))
        · refine wq_sipush (z := -1001) (zlit rfl) rfl dX11_delete_27 ?_
          exact wp_iret rfl dX11_delete_30 (q10.2.2 c12)
theorem vc_X11_delete_39 {G : zG} {d : Nat} {Q : Option zV → zHp → Prop} (y1 : Int) (y2 : Int) (y3 : Int) (h : zHp) (hS : zSh h) (hd : 8 ≤ d) (I_39 : Int → Int → Int → zHp → Prop) (hI_39 : ∀ (y1 : Int) (y2 : Int) (y3 : Int) (h' : zHp), I_39 y1 y2 y3 h' → wpN G d M_X11_delete 39 [(0, vR 343), (1, vI y1), (2, vI y2), (3, vI y3)] [] h' Q) (I_84 : Int → Int → Int → zHp → Prop) (hI_84 : ∀ (y1 : Int) (y2 : Int) (y3 : Int) (h' : zHp), I_84 y1 y2 y3 h' → wpN G d M_X11_delete 84 [(0, vR 343), (1, vI y1), (2, vI y2), (3, vI y3)] [] h' Q) 
    (hv : (wpN G (d - 1) M_X11_size 0 (zar 0 [vR 343]) [] h (qI (fun z1 h2 => zSh h2 ∧ ((z1 ≤ y3 → ((-2147483648 ≤ (gI h2 344 200) - y2 ∧ (gI h2 344 200) - y2 ≤ 2147483647) ∧ (∀ h6 : zHp, h6 = sI h2 344 200 ((gI h2 344 200) - y2) → (wpN G (d - 1) M_X11_size 0 (zar 0 [vR 343]) [] h6 (qI (fun z8 h9 => zSh h9 ∧ (zSh h9 → I_84 y1 y2 z8 h9))))))) ∧ (y3 < z1 → ((-2147483648 ≤ y3 - y2 ∧ y3 - y2 ≤ 2147483647) ∧ (((0 : Int) ≤ y3 ∧ y3 < ((213 : Nat) : Int)) ∧ (((0 : Int) ≤ (y3 - y2) ∧ (y3 - y2) < ((213 : Nat) : Int)) ∧ (∀ h12 : zHp, h12 = sI h2 344 (y3 - y2).toNat (gI h2 344 y3.toNat) → ((-2147483648 ≤ y3 + 1 ∧ y3 + 1 ≤ 2147483647) ∧ ∀ x14 : Int, x14 = y3 + 1 → (zSh h12 → I_39 y1 y2 x14 h12)))))))))))) : wpN G d M_X11_delete 39 [(0, vR 343), (1, vI y1), (2, vI y2), (3, vI y3)] [] h Q := by
  refine wq_iload_n 3 rfl rfl dX11_delete_39 ?_
  refine wq_aload_n 0 rfl rfl dX11_delete_40 ?_
  refine wN_V (As := []) vm_X11_size lk_X11_218 tT_343 rfl rfl (Nat.le_of_ble_eq_true rfl) (Nat.le_of_ble_eq_true rfl) (d' := d - 1) (by omega) dX11_delete_41 hv (fun v9 h2 q3 => ?_)
  obtain ⟨z1, rfl, hS4, q3⟩ := q3
  refine wq_st (st' := [vI z1, vI y3]) rfl ?_
  refine wq_icmp_ge 67 rfl dX11_delete_44 (fun c5 => ?_) (fun c5 => ?_)
  · refine wq_aload_n 0 rfl rfl dX11_delete_67 ?_
    refine wq_getR fk_X11_7 tT_343 (fun _ _ _ => rfl) (sh_11_0 hS4) (by decide) dX11_delete_68 ?_
    refine wq_sipush (z := 200) (zlit rfl) rfl dX11_delete_71 ?_
    refine wq_dup2 rfl rfl dX11_delete_74 ?_
    refine wq_iald tT_344 (by decide) (by decide) dX11_delete_75 ?_
    refine wq_iload_n 2 rfl rfl dX11_delete_76 ?_
    refine wq_isub (q3.1 c5).1 dX11_delete_77 ?_
    refine wq_iast tT_344 (by decide) (by decide) dX11_delete_78 ?_
    refine wq_toph (fun h6 e7 => ?_)
    have sh6 : zSh h6 := zSh_of e7 hS4
    refine wq_aload_n 0 rfl rfl dX11_delete_79 ?_
    refine wN_V (As := []) vm_X11_size lk_X11_218 tT_343 rfl rfl (Nat.le_of_ble_eq_true rfl) (Nat.le_of_ble_eq_true rfl) (d' := d - 1) (by omega) dX11_delete_80 ((q3.1 c5).2 h6 e7) (fun v9 h9 q10 => ?_)
    obtain ⟨z8, rfl, hS11, q10⟩ := q10
    refine wq_st (st' := [vI z8]) rfl ?_
    refine wq_istore_n (ls' := [(0, vR 343), (1, vI y1), (2, vI y2), (3, vI z8)]) rfl (by decide) rfl dX11_delete_83 ?_
    exact wq_pick [0, 1, 2, 3] rfl (hI_84 y1 y2 z8 h9 (q10 hS11))
  · refine wq_aload_n 0 rfl rfl dX11_delete_47 ?_
    refine wq_getR fk_X11_7 tT_343 (fun _ _ _ => rfl) (sh_11_0 hS4) (by decide) dX11_delete_48 ?_
    refine wq_iload_n 3 rfl rfl dX11_delete_51 ?_
    refine wq_iload_n 2 rfl rfl dX11_delete_52 ?_
    refine wq_isub (q3.2 c5).1 dX11_delete_53 ?_
    refine wq_aload_n 0 rfl rfl dX11_delete_54 ?_
    refine wq_getR fk_X11_7 tT_343 (fun _ _ _ => rfl) (sh_11_0 hS4) (by decide) dX11_delete_55 ?_
    refine wq_iload_n 3 rfl rfl dX11_delete_58 ?_
    refine wq_iald tT_344 (q3.2 c5).2.1.1 (q3.2 c5).2.1.2 dX11_delete_59 ?_
    refine wq_iast tT_344 (q3.2 c5).2.2.1.1 (q3.2 c5).2.2.1.2 dX11_delete_60 ?_
    refine wq_toph (fun h12 e13 => ?_)
    have sh12 : zSh h12 := zSh_of e13 hS4
    refine z_nm (y3 + 1) (fun x14 e15 => ?_)
    refine wq_iinc (y := x14) (ls' := [(0, vR 343), (1, vI y1), (2, vI y2), (3, vI x14)]) 3 rfl e15.symm (by rw [e15]; exact ((q3.2 c5).2.2.2 h12 e13).1) (by decide) rfl dX11_delete_61 ?_
    refine wq_goto 39 rfl dX11_delete_64 ?_
    exact wq_pick [0, 1, 2, 3] rfl (hI_39 y1 y2 x14 h12 ((((q3.2 c5).2.2.2 h12 e13).2 x14 e15) sh12))
theorem vc_X11_delete_84 {G : zG} {d : Nat} {Q : Option zV → zHp → Prop} (y1 : Int) (y2 : Int) (y3 : Int) (h : zHp) (hS : zSh h) (hd : 8 ≤ d) (I_84 : Int → Int → Int → zHp → Prop) (hI_84 : ∀ (y1 : Int) (y2 : Int) (y3 : Int) (h' : zHp), I_84 y1 y2 y3 h' → wpN G d M_X11_delete 84 [(0, vR 343), (1, vI y1), (2, vI y2), (3, vI y3)] [] h' Q) (I_109 : Int → Int → Int → zHp → Prop) (hI_109 : ∀ (y1 : Int) (y2 : Int) (y3 : Int) (h' : zHp), I_109 y1 y2 y3 h' → wpN G d M_X11_delete 109 [(0, vR 343), (1, vI y1), (2, vI y2), (3, vI y3)] [] h' Q) 
    (hv : (wpN G (d - 1) M_X11_size 0 (zar 0 [vR 343]) [] h (qI (fun z1 h2 => zSh h2 ∧ ((-2147483648 ≤ z1 + y2 ∧ z1 + y2 ≤ 2147483647) ∧ (((z1 + y2) ≤ y3 → (zSh h2 → I_109 y1 y2 0 h2)) ∧ (y3 < (z1 + y2) → (((0 : Int) ≤ y3 ∧ y3 < ((213 : Nat) : Int)) ∧ (∀ h6 : zHp, h6 = sI h2 344 y3.toNat 0 → ((-2147483648 ≤ y3 + 1 ∧ y3 + 1 ≤ 2147483647) ∧ ∀ x8 : Int, x8 = y3 + 1 → (zSh h6 → I_84 y1 y2 x8 h6))))))))))) : wpN G d M_X11_delete 84 [(0, vR 343), (1, vI y1), (2, vI y2), (3, vI y3)] [] h Q := by
  refine wq_iload_n 3 rfl rfl dX11_delete_84 ?_
  refine wq_aload_n 0 rfl rfl dX11_delete_85 ?_
  refine wN_V (As := []) vm_X11_size lk_X11_218 tT_343 rfl rfl (Nat.le_of_ble_eq_true rfl) (Nat.le_of_ble_eq_true rfl) (d' := d - 1) (by omega) dX11_delete_86 hv (fun v9 h2 q3 => ?_)
  obtain ⟨z1, rfl, hS4, q3⟩ := q3
  refine wq_st (st' := [vI z1, vI y3]) rfl ?_
  refine wq_iload_n 2 rfl rfl dX11_delete_89 ?_
  refine wq_iadd q3.1 dX11_delete_90 ?_
  refine wq_icmp_ge 107 rfl dX11_delete_91 (fun c5 => ?_) (fun c5 => ?_)
  · refine wq_iconst (z := 0) (zlit rfl) dX11_delete_107 ?_
    refine wq_istore_n (ls' := [(0, vR 343), (1, vI y1), (2, vI y2), (3, vI 0)]) rfl (by decide) rfl dX11_delete_108 ?_
    exact wq_pick [0, 1, 2, 3] rfl (hI_109 y1 y2 0 h2 ((q3.2.1 c5) hS4))
  · refine wq_aload_n 0 rfl rfl dX11_delete_94 ?_
    refine wq_getR fk_X11_7 tT_343 (fun _ _ _ => rfl) (sh_11_0 hS4) (by decide) dX11_delete_95 ?_
    refine wq_iload_n 3 rfl rfl dX11_delete_98 ?_
    refine wq_iconst (z := 0) (zlit rfl) dX11_delete_99 ?_
    refine wq_iast tT_344 (q3.2.2 c5).1.1 (q3.2.2 c5).1.2 dX11_delete_100 ?_
    refine wq_toph (fun h6 e7 => ?_)
    have sh6 : zSh h6 := zSh_of e7 hS4
    refine z_nm (y3 + 1) (fun x8 e9 => ?_)
    refine wq_iinc (y := x8) (ls' := [(0, vR 343), (1, vI y1), (2, vI y2), (3, vI x8)]) 3 rfl e9.symm (by rw [e9]; exact ((q3.2.2 c5).2 h6 e7).1) (by decide) rfl dX11_delete_101 ?_
    refine wq_goto 84 rfl dX11_delete_104 ?_
    exact wq_pick [0, 1, 2, 3] rfl (hI_84 y1 y2 x8 h6 ((((q3.2.2 c5).2 h6 e7).2 x8 e9) sh6))
theorem vc_X11_delete_109 {G : zG} {d : Nat} {Q : Option zV → zHp → Prop} (y1 : Int) (y2 : Int) (y3 : Int) (h : zHp) (hS : zSh h) (hd : 8 ≤ d) (I_109 : Int → Int → Int → zHp → Prop) (hI_109 : ∀ (y1 : Int) (y2 : Int) (y3 : Int) (h' : zHp), I_109 y1 y2 y3 h' → wpN G d M_X11_delete 109 [(0, vR 343), (1, vI y1), (2, vI y2), (3, vI y3)] [] h' Q) 
    (hv : ((4 ≤ y3 → (wpN G (d - 1) M_X11_stays 0 (zar 0 [vR 343, vI 1]) [] h (qI (fun z2 h3 => zSh h3 ∧ ((z2 = 0 → Q (some (vI (-1005))) h3) ∧ (z2 ≠ 0 → (wpN G (d - 1) M_X11_size 0 (zar 0 [vR 343]) [] h3 (qI (fun z7 h8 => zSh h8 ∧ Q (some (vI z7)) h8))))))))) ∧ (y3 < 4 → (wpN G (d - 1) M_X11_isPresent 0 (zar 0 [vR 343, vI y3]) [] h (qI (fun z11 h12 => zSh h12 ∧ ((z11 = 0 → ((-2147483648 ≤ y3 + 1 ∧ y3 + 1 ≤ 2147483647) ∧ ∀ x16 : Int, x16 = y3 + 1 → (zSh h12 → I_109 y1 y2 x16 h12))) ∧ (z11 ≠ 0 → (wpN G (d - 1) M_X11_offsetOf 0 (zar 0 [vR 343, vI y3]) [] h12 (qI (fun z18 h19 => zSh h19 ∧ ((z18 ≤ y1 → ((-2147483648 ≤ y3 + 1 ∧ y3 + 1 ≤ 2147483647) ∧ ∀ x23 : Int, x23 = y3 + 1 → (zSh h19 → I_109 y1 y2 x23 h19))) ∧ (y1 < z18 → (wpN G (d - 1) M_X11_offsetOf 0 (zar 0 [vR 343, vI y3]) [] h19 (qI (fun z25 h26 => zSh h26 ∧ ((-2147483648 ≤ z25 - y2 ∧ z25 - y2 ≤ 2147483647) ∧ ((y1 ≤ (z25 - y2) → (wpN G (d - 1) M_X11_offsetOf 0 (zar 0 [vR 343, vI y3]) [] h26 (qI (fun z30 h31 => zSh h31 ∧ ((-2147483648 ≤ z30 - y2 ∧ z30 - y2 ≤ 2147483647) ∧ (wpN G (d - 1) M_X11_moves 0 (zar 0 [vR 343, vI y3, vI (z30 - y2)]) [] h31 (qV (fun h35 => zSh h35 ∧ ((-2147483648 ≤ y3 + 1 ∧ y3 + 1 ≤ 2147483647) ∧ ∀ x38 : Int, x38 = y3 + 1 → (zSh h35 → I_109 y1 y2 x38 h35)))))))))) ∧ ((z25 - y2) < y1 → (wpN G (d - 1) M_X11_moves 0 (zar 0 [vR 343, vI y3, vI y1]) [] h26 (qV (fun h41 => zSh h41 ∧ ((-2147483648 ≤ y3 + 1 ∧ y3 + 1 ≤ 2147483647) ∧ ∀ x44 : Int, x44 = y3 + 1 → (zSh h41 → I_109 y1 y2 x44 h41)))))))))))))))))))))))) : wpN G d M_X11_delete 109 [(0, vR 343), (1, vI y1), (2, vI y2), (3, vI y3)] [] h Q := by
  refine wq_iload_n 3 rfl rfl dX11_delete_109 ?_
  refine wq_iconst (z := 4) (zlit rfl) dX11_delete_110 ?_
  refine wq_icmp_ge 164 rfl dX11_delete_111 (fun c1 => ?_) (fun c1 => ?_)
  · refine wq_aload_n 0 rfl rfl dX11_delete_164 ?_
    refine wq_iconst (z := 1) (zlit rfl) dX11_delete_165 ?_
    refine wN_V (As := [vI 1]) vm_X11_stays lk_X11_334 tT_343 rfl rfl (Nat.le_of_ble_eq_true rfl) (Nat.le_of_ble_eq_true rfl) (d' := d - 1) (by omega) dX11_delete_166 (hv.1 c1) (fun v9 h3 q4 => ?_)
    obtain ⟨z2, rfl, hS5, q4⟩ := q4
    refine wq_st (st' := [vI z2]) rfl ?_
    refine wq_if_eq 179 rfl dX11_delete_169 (fun c6 => ?_) (fun c6 => ?_)
    · refine wq_sipush (z := -1005) (zlit rfl) rfl dX11_delete_179 ?_
      exact wp_iret rfl dX11_delete_182 (q4.1 c6)
    · refine wq_aload_n 0 rfl rfl dX11_delete_172 ?_
      refine wN_V (As := []) vm_X11_size lk_X11_218 tT_343 rfl rfl (Nat.le_of_ble_eq_true rfl) (Nat.le_of_ble_eq_true rfl) (d' := d - 1) (by omega) dX11_delete_173 (q4.2 c6) (fun v9 h8 q9 => ?_)
      obtain ⟨z7, rfl, hS10, q9⟩ := q9
      refine wq_st (st' := [vI z7]) rfl ?_
      refine wq_goto 182 rfl dX11_delete_176 ?_
      exact wp_iret rfl dX11_delete_182 q9
  · refine wq_aload_n 0 rfl rfl dX11_delete_114 ?_
    refine wq_iload_n 3 rfl rfl dX11_delete_115 ?_
    refine wN_V (As := [vI y3]) vm_X11_isPresent lk_X11_204 tT_343 rfl rfl (Nat.le_of_ble_eq_true rfl) (Nat.le_of_ble_eq_true rfl) (d' := d - 1) (by omega) dX11_delete_116 (hv.2 c1) (fun v9 h12 q13 => ?_)
    obtain ⟨z11, rfl, hS14, q13⟩ := q13
    refine wq_st (st' := [vI z11]) rfl ?_
    refine wq_if_eq 158 rfl dX11_delete_119 (fun c15 => ?_) (fun c15 => ?_)
    · refine z_nm (y3 + 1) (fun x16 e17 => ?_)
      refine wq_iinc (y := x16) (ls' := [(0, vR 343), (1, vI y1), (2, vI y2), (3, vI x16)]) 3 rfl e17.symm (by rw [e17]; exact (q13.1 c15).1) (by decide) rfl dX11_delete_158 ?_
      refine wq_goto 109 rfl dX11_delete_161 ?_
      exact wq_pick [0, 1, 2, 3] rfl (hI_109 y1 y2 x16 h12 (((q13.1 c15).2 x16 e17) hS14))
    · refine wq_aload_n 0 rfl rfl dX11_delete_122 ?_
      refine wq_iload_n 3 rfl rfl dX11_delete_123 ?_
      refine wN_V (As := [vI y3]) vm_X11_offsetOf lk_X11_275 tT_343 rfl rfl (Nat.le_of_ble_eq_true rfl) (Nat.le_of_ble_eq_true rfl) (d' := d - 1) (by omega) dX11_delete_124 (q13.2 c15) (fun v9 h19 q20 => ?_)
      obtain ⟨z18, rfl, hS21, q20⟩ := q20
      refine wq_st (st' := [vI z18]) rfl ?_
      refine wq_iload_n 1 rfl rfl dX11_delete_127 ?_
      refine wq_icmp_le 158 rfl dX11_delete_128 (fun c22 => ?_) (fun c22 => ?_)
      · refine z_nm (y3 + 1) (fun x23 e24 => ?_)
        refine wq_iinc (y := x23) (ls' := [(0, vR 343), (1, vI y1), (2, vI y2), (3, vI x23)]) 3 rfl e24.symm (by rw [e24]; exact (q20.1 c22).1) (by decide) rfl dX11_delete_158 ?_
        refine wq_goto 109 rfl dX11_delete_161 ?_
        exact wq_pick [0, 1, 2, 3] rfl (hI_109 y1 y2 x23 h19 (((q20.1 c22).2 x23 e24) hS21))
      · refine wq_aload_n 0 rfl rfl dX11_delete_131 ?_
        refine wq_iload_n 3 rfl rfl dX11_delete_132 ?_
        refine wq_aload_n 0 rfl rfl dX11_delete_133 ?_
        refine wq_iload_n 3 rfl rfl dX11_delete_134 ?_
        refine wN_V (As := [vI y3]) vm_X11_offsetOf lk_X11_275 tT_343 rfl rfl (Nat.le_of_ble_eq_true rfl) (Nat.le_of_ble_eq_true rfl) (d' := d - 1) (by omega) dX11_delete_135 (q20.2 c22) (fun v9 h26 q27 => ?_)
        obtain ⟨z25, rfl, hS28, q27⟩ := q27
        refine wq_st (st' := [vI z25, vI y3, vR 343]) rfl ?_
        refine wq_iload_n 2 rfl rfl dX11_delete_138 ?_
        refine wq_isub q27.1 dX11_delete_139 ?_
        refine wq_iload_n 1 rfl rfl dX11_delete_140 ?_
        refine wq_icmp_ge 148 rfl dX11_delete_141 (fun c29 => ?_) (fun c29 => ?_)
        · refine wq_aload_n 0 rfl rfl dX11_delete_148 ?_
          refine wq_iload_n 3 rfl rfl dX11_delete_149 ?_
          refine wN_V (As := [vI y3]) vm_X11_offsetOf lk_X11_275 tT_343 rfl rfl (Nat.le_of_ble_eq_true rfl) (Nat.le_of_ble_eq_true rfl) (d' := d - 1) (by omega) dX11_delete_150 (q27.2.1 c29) (fun v9 h31 q32 => ?_)
          obtain ⟨z30, rfl, hS33, q32⟩ := q32
          refine wq_st (st' := [vI z30, vI y3, vR 343]) rfl ?_
          refine wq_iload_n 2 rfl rfl dX11_delete_153 ?_
          refine wq_isub q32.1 dX11_delete_154 ?_
          refine wN_V (As := [vI y3, vI (z30 - y2)]) vm_X11_moves lk_X11_323 tT_343 rfl rfl (Nat.le_of_ble_eq_true rfl) (Nat.le_of_ble_eq_true rfl) (d' := d - 1) (by omega) dX11_delete_155 q32.2 (fun v9 h35 q36 => ?_)
          obtain ⟨rfl, hS37, q36⟩ := q36
          refine wq_st (st' := []) rfl ?_
          refine z_nm (y3 + 1) (fun x38 e39 => ?_)
          refine wq_iinc (y := x38) (ls' := [(0, vR 343), (1, vI y1), (2, vI y2), (3, vI x38)]) 3 rfl e39.symm (by rw [e39]; exact q36.1) (by decide) rfl dX11_delete_158 ?_
          refine wq_goto 109 rfl dX11_delete_161 ?_
          exact wq_pick [0, 1, 2, 3] rfl (hI_109 y1 y2 x38 h35 ((q36.2 x38 e39) hS37))
        · refine wq_iload_n 1 rfl rfl dX11_delete_144 ?_
          refine wq_goto 155 rfl dX11_delete_145 ?_
          refine wN_V (As := [vI y3, vI y1]) vm_X11_moves lk_X11_323 tT_343 rfl rfl (Nat.le_of_ble_eq_true rfl) (Nat.le_of_ble_eq_true rfl) (d' := d - 1) (by omega) dX11_delete_155 (q27.2.2 c29) (fun v9 h41 q42 => ?_)
          obtain ⟨rfl, hS43, q42⟩ := q42
          refine wq_st (st' := []) rfl ?_
          refine z_nm (y3 + 1) (fun x44 e45 => ?_)
          refine wq_iinc (y := x44) (ls' := [(0, vR 343), (1, vI y1), (2, vI y2), (3, vI x44)]) 3 rfl e45.symm (by rw [e45]; exact q42.1) (by decide) rfl dX11_delete_158 ?_
          refine wq_goto 109 rfl dX11_delete_161 ?_
          exact wq_pick [0, 1, 2, 3] rfl (hI_109 y1 y2 x44 h41 ((q42.2 x44 e45) hS43))
theorem dX11_overwrite_0 : decode cX11_overwrite 0 = .ok (.iload_n 1, 1) := by decide +kernel
theorem dX11_overwrite_1 : decode cX11_overwrite 1 = .ok (.i2l, 1) := by decide +kernel
theorem dX11_overwrite_2 : decode cX11_overwrite 2 = .ok (.lconst 0, 1) := by decide +kernel
theorem dX11_overwrite_3 : decode cX11_overwrite 3 = .ok (.aload_n 0, 1) := by decide +kernel
theorem dX11_overwrite_4 : decode cX11_overwrite 4 = .ok (.invokevirtual 218, 3) := by decide +kernel
theorem dX11_overwrite_7 : decode cX11_overwrite 7 = .ok (.iconst 1, 1) := by decide +kernel
theorem dX11_overwrite_8 : decode cX11_overwrite 8 = .ok (.isub, 1) := by decide +kernel
theorem dX11_overwrite_9 : decode cX11_overwrite 9 = .ok (.i2l, 1) := by decide +kernel
theorem dX11_overwrite_10 : decode cX11_overwrite 10 = .ok (.invokestatic 91, 3) := by decide +kernel
theorem dX11_overwrite_13 : decode cX11_overwrite 13 = .ok (.ifCond .eq 15, 3) := by decide +kernel
theorem dX11_overwrite_16 : decode cX11_overwrite 16 = .ok (.iload_n 2, 1) := by decide +kernel
theorem dX11_overwrite_17 : decode cX11_overwrite 17 = .ok (.i2l, 1) := by decide +kernel
theorem dX11_overwrite_18 : decode cX11_overwrite 18 = .ok (.lconst 0, 1) := by decide +kernel
theorem dX11_overwrite_19 : decode cX11_overwrite 19 = .ok (.ldc2_w 293, 3) := by decide +kernel
theorem dX11_overwrite_22 : decode cX11_overwrite 22 = .ok (.invokestatic 91, 3) := by decide +kernel
theorem dX11_overwrite_25 : decode cX11_overwrite 25 = .ok (.ifCond .ne 7, 3) := by decide +kernel
theorem dX11_overwrite_28 : decode cX11_overwrite 28 = .ok (.sipush (-1001), 3) := by decide +kernel
theorem dX11_overwrite_31 : decode cX11_overwrite 31 = .ok (.ireturn, 1) := by decide +kernel
theorem dX11_overwrite_32 : decode cX11_overwrite 32 = .ok (.aload_n 0, 1) := by decide +kernel
theorem dX11_overwrite_33 : decode cX11_overwrite 33 = .ok (.invokevirtual 328, 3) := by decide +kernel
theorem dX11_overwrite_36 : decode cX11_overwrite 36 = .ok (.aload_n 0, 1) := by decide +kernel
theorem dX11_overwrite_37 : decode cX11_overwrite 37 = .ok (.getfield 7, 3) := by decide +kernel
theorem dX11_overwrite_40 : decode cX11_overwrite 40 = .ok (.iload_n 1, 1) := by decide +kernel
theorem dX11_overwrite_41 : decode cX11_overwrite 41 = .ok (.iaload, 1) := by decide +kernel
theorem dX11_overwrite_42 : decode cX11_overwrite 42 = .ok (.istore_n 3, 1) := by decide +kernel
theorem dX11_overwrite_43 : decode cX11_overwrite 43 = .ok (.aload_n 0, 1) := by decide +kernel
theorem dX11_overwrite_44 : decode cX11_overwrite 44 = .ok (.getfield 7, 3) := by decide +kernel
theorem dX11_overwrite_47 : decode cX11_overwrite 47 = .ok (.iload_n 1, 1) := by decide +kernel
theorem dX11_overwrite_48 : decode cX11_overwrite 48 = .ok (.iload_n 2, 1) := by decide +kernel
theorem dX11_overwrite_49 : decode cX11_overwrite 49 = .ok (.iastore, 1) := by decide +kernel
theorem dX11_overwrite_50 : decode cX11_overwrite 50 = .ok (.aload_n 0, 1) := by decide +kernel
theorem dX11_overwrite_51 : decode cX11_overwrite 51 = .ok (.iconst 1, 1) := by decide +kernel
theorem dX11_overwrite_52 : decode cX11_overwrite 52 = .ok (.invokevirtual 334, 3) := by decide +kernel
theorem dX11_overwrite_55 : decode cX11_overwrite 55 = .ok (.ifCond .eq 7, 3) := by decide +kernel
theorem dX11_overwrite_58 : decode cX11_overwrite 58 = .ok (.iload_n 3, 1) := by decide +kernel
theorem dX11_overwrite_59 : decode cX11_overwrite 59 = .ok (.goto 6, 3) := by decide +kernel
theorem dX11_overwrite_62 : decode cX11_overwrite 62 = .ok (.sipush (-1005), 3) := by decide +kernel
theorem dX11_overwrite_65 : decode cX11_overwrite 65 = .ok (.ireturn, 1) := by decide +kernel
theorem vc_X11_overwrite_0 {G : zG} {d : Nat} {Q : Option zV → zHp → Prop} (p1 : Int) (p2 : Int) (h : zHp) (hS : zSh h) (hd : 8 ≤ d)  
    (hv : (wpN G (d - 1) M_X11_size 0 (zar 0 [vR 343]) [] h (qI (fun z1 h2 => zSh h2 ∧ ((-2147483648 ≤ z1 - 1 ∧ z1 - 1 ≤ 2147483647) ∧ (wpN G (d - 1) M_X11_in 0 (zar 0 [vL p1, vL 0, vL (z1 - 1)]) [] h2 (qI (fun z5 h6 => zSh h6 ∧ ((z5 = 0 → Q (some (vI (-1001))) h6) ∧ (z5 ≠ 0 → (wpN G (d - 1) M_X11_in 0 (zar 0 [vL p2, vL 0, vL 255]) [] h6 (qI (fun z10 h11 => zSh h11 ∧ ((z10 ≠ 0 → (wpN G (d - 1) M_X11_keeps 0 (zar 0 [vR 343]) [] h11 (qV (fun h16 => zSh h16 ∧ (((0 : Int) ≤ p1 ∧ p1 < ((213 : Nat) : Int)) ∧ (∀ x19 : Int, x19 = (gI h16 344 p1.toNat) → (((0 : Int) ≤ p1 ∧ p1 < ((213 : Nat) : Int)) ∧ (∀ h21 : zHp, h21 = sI h16 344 p1.toNat p2 → (wpN G (d - 1) M_X11_stays 0 (zar 0 [vR 343, vI 1]) [] h21 (qI (fun z23 h24 => zSh h24 ∧ ((z23 = 0 → Q (some (vI (-1005))) h24) ∧ (z23 ≠ 0 → Q (some (vI x19)) h24))))))))))))) ∧ (z10 = 0 → Q (some (vI (-1001))) h11))))))))))))))) : wpN G d M_X11_overwrite 0 [(0, vR 343), (1, vI p1), (2, vI p2)] [] h Q := by
  refine wq_iload_n 1 rfl rfl dX11_overwrite_0 ?_
  refine wq_i2l dX11_overwrite_1 ?_
  refine wq_lconst (z := 0) (zlitL rfl) rfl dX11_overwrite_2 ?_
  refine wq_aload_n 0 rfl rfl dX11_overwrite_3 ?_
  refine wN_V (As := []) vm_X11_size lk_X11_218 tT_343 rfl rfl (Nat.le_of_ble_eq_true rfl) (Nat.le_of_ble_eq_true rfl) (d' := d - 1) (by omega) dX11_overwrite_4 hv (fun v9 h2 q3 => ?_)
  obtain ⟨z1, rfl, hS4, q3⟩ := q3
  refine wq_st (st' := [vI z1, vL 0, vL p1]) rfl ?_
  refine wq_iconst (z := 1) (zlit rfl) dX11_overwrite_7 ?_
  refine wq_isub q3.1 dX11_overwrite_8 ?_
  refine wq_i2l dX11_overwrite_9 ?_
  refine wN_S (As := [vL p1, vL 0, vL (z1 - 1)]) md_X11_in ms_X11_in lk_X11_91 rfl rfl (Nat.le_of_ble_eq_true rfl) (Nat.le_of_ble_eq_true rfl) (d' := d - 1) (by omega) dX11_overwrite_10 q3.2 (fun v9 h6 q7 => ?_)
  obtain ⟨z5, rfl, hS8, q7⟩ := q7
  refine wq_st (st' := [vI z5]) rfl ?_
  refine wq_if_eq 28 rfl dX11_overwrite_13 (fun c9 => ?_) (fun c9 => ?_)
  · refine wq_sipush (z := -1001) (zlit rfl) rfl dX11_overwrite_28 ?_
    exact wp_iret rfl dX11_overwrite_31 (q7.1 c9)
  · refine wq_iload_n 2 rfl rfl dX11_overwrite_16 ?_
    refine wq_i2l dX11_overwrite_17 ?_
    refine wq_lconst (z := 0) (zlitL rfl) rfl dX11_overwrite_18 ?_
    refine wq_ldc2_w (z := 255) (zlitL rfl) kc_X11_293 dX11_overwrite_19 ?_
    refine wN_S (As := [vL p2, vL 0, vL 255]) md_X11_in ms_X11_in lk_X11_91 rfl rfl (Nat.le_of_ble_eq_true rfl) (Nat.le_of_ble_eq_true rfl) (d' := d - 1) (by omega) dX11_overwrite_22 (q7.2 c9) (fun v9 h11 q12 => ?_)
    obtain ⟨z10, rfl, hS13, q12⟩ := q12
    refine wq_st (st' := [vI z10]) rfl ?_
    refine wq_if_ne 32 rfl dX11_overwrite_25 (fun c14 => ?_) (fun c14 => ?_)
    · refine wq_aload_n 0 rfl rfl dX11_overwrite_32 ?_
      refine wN_V (As := []) vm_X11_keeps lk_X11_328 tT_343 rfl rfl (Nat.le_of_ble_eq_true rfl) (Nat.le_of_ble_eq_true rfl) (d' := d - 1) (by omega) dX11_overwrite_33 (q12.1 c14) (fun v9 h16 q17 => ?_)
      obtain ⟨rfl, hS18, q17⟩ := q17
      refine wq_st (st' := []) rfl ?_
      refine wq_aload_n 0 rfl rfl dX11_overwrite_36 ?_
      refine wq_getR fk_X11_7 tT_343 (fun _ _ _ => rfl) (sh_11_0 hS18) (by decide) dX11_overwrite_37 ?_
      refine wq_iload_n 1 rfl rfl dX11_overwrite_40 ?_
      refine wq_iald tT_344 q17.1.1 q17.1.2 dX11_overwrite_41 ?_
      refine wq_topI (fun x19 e20 => ?_)
      refine wq_istore_n (ls' := [(0, vR 343), (1, vI p1), (2, vI p2), (3, vI x19)]) rfl (by decide) rfl dX11_overwrite_42 ?_
      refine wq_aload_n 0 rfl rfl dX11_overwrite_43 ?_
      refine wq_getR fk_X11_7 tT_343 (fun _ _ _ => rfl) (sh_11_0 hS18) (by decide) dX11_overwrite_44 ?_
      refine wq_iload_n 1 rfl rfl dX11_overwrite_47 ?_
      refine wq_iload_n 2 rfl rfl dX11_overwrite_48 ?_
      refine wq_iast tT_344 (q17.2 x19 e20).1.1 (q17.2 x19 e20).1.2 dX11_overwrite_49 ?_
      refine wq_toph (fun h21 e22 => ?_)
      have sh21 : zSh h21 := zSh_of e22 hS18
      refine wq_aload_n 0 rfl rfl dX11_overwrite_50 ?_
      refine wq_iconst (z := 1) (zlit rfl) dX11_overwrite_51 ?_
      refine wN_V (As := [vI 1]) vm_X11_stays lk_X11_334 tT_343 rfl rfl (Nat.le_of_ble_eq_true rfl) (Nat.le_of_ble_eq_true rfl) (d' := d - 1) (by omega) dX11_overwrite_52 ((q17.2 x19 e20).2 h21 e22) (fun v9 h24 q25 => ?_)
      obtain ⟨z23, rfl, hS26, q25⟩ := q25
      refine wq_st (st' := [vI z23]) rfl ?_
      refine wq_if_eq 62 rfl dX11_overwrite_55 (fun c27 => ?_) (fun c27 => ?_)
      · refine wq_sipush (z := -1005) (zlit rfl) rfl dX11_overwrite_62 ?_
        exact wp_iret rfl dX11_overwrite_65 (q25.1 c27)
      · refine wq_iload_n 3 rfl rfl dX11_overwrite_58 ?_
        refine wq_goto 65 rfl dX11_overwrite_59 ?_
        exact wp_iret rfl dX11_overwrite_65 (q25.2 c27)
    · refine wq_sipush (z := -1001) (zlit rfl) rfl dX11_overwrite_28 ?_
      exact wp_iret rfl dX11_overwrite_31 (q12.2 c14)
theorem dX11_copy_0 : decode cX11_copy 0 = .ok (.iload_n 1, 1) := by decide +kernel
theorem dX11_copy_1 : decode cX11_copy 1 = .ok (.i2l, 1) := by decide +kernel
theorem dX11_copy_2 : decode cX11_copy 2 = .ok (.lconst 0, 1) := by decide +kernel
theorem dX11_copy_3 : decode cX11_copy 3 = .ok (.aload_n 0, 1) := by decide +kernel
theorem dX11_copy_4 : decode cX11_copy 4 = .ok (.invokevirtual 218, 3) := by decide +kernel
theorem dX11_copy_7 : decode cX11_copy 7 = .ok (.i2l, 1) := by decide +kernel
theorem dX11_copy_8 : decode cX11_copy 8 = .ok (.invokestatic 91, 3) := by decide +kernel
theorem dX11_copy_11 : decode cX11_copy 11 = .ok (.ifCond .eq 25, 3) := by decide +kernel
theorem dX11_copy_14 : decode cX11_copy 14 = .ok (.iload_n 2, 1) := by decide +kernel
theorem dX11_copy_15 : decode cX11_copy 15 = .ok (.i2l, 1) := by decide +kernel
theorem dX11_copy_16 : decode cX11_copy 16 = .ok (.lconst 0, 1) := by decide +kernel
theorem dX11_copy_17 : decode cX11_copy 17 = .ok (.ldc2_w 338, 3) := by decide +kernel
theorem dX11_copy_20 : decode cX11_copy 20 = .ok (.invokestatic 91, 3) := by decide +kernel
theorem dX11_copy_23 : decode cX11_copy 23 = .ok (.ifCond .eq 13, 3) := by decide +kernel
theorem dX11_copy_26 : decode cX11_copy 26 = .ok (.iload_n 1, 1) := by decide +kernel
theorem dX11_copy_27 : decode cX11_copy 27 = .ok (.iload_n 2, 1) := by decide +kernel
theorem dX11_copy_28 : decode cX11_copy 28 = .ok (.iadd, 1) := by decide +kernel
theorem dX11_copy_29 : decode cX11_copy 29 = .ok (.aload_n 0, 1) := by decide +kernel
theorem dX11_copy_30 : decode cX11_copy 30 = .ok (.invokevirtual 218, 3) := by decide +kernel
theorem dX11_copy_33 : decode cX11_copy 33 = .ok (.if_icmp .le 7, 3) := by decide +kernel
theorem dX11_copy_36 : decode cX11_copy 36 = .ok (.sipush (-1001), 3) := by decide +kernel
theorem dX11_copy_39 : decode cX11_copy 39 = .ok (.ireturn, 1) := by decide +kernel
theorem dX11_copy_40 : decode cX11_copy 40 = .ok (.iconst 0, 1) := by decide +kernel
theorem dX11_copy_41 : decode cX11_copy 41 = .ok (.istore_n 3, 1) := by decide +kernel
theorem dX11_copy_42 : decode cX11_copy 42 = .ok (.iload_n 3, 1) := by decide +kernel
theorem dX11_copy_43 : decode cX11_copy 43 = .ok (.iload_n 2, 1) := by decide +kernel
theorem dX11_copy_44 : decode cX11_copy 44 = .ok (.if_icmp .ge 23, 3) := by decide +kernel
theorem dX11_copy_47 : decode cX11_copy 47 = .ok (.aload_n 0, 1) := by decide +kernel
theorem dX11_copy_48 : decode cX11_copy 48 = .ok (.getfield 22, 3) := by decide +kernel
theorem dX11_copy_51 : decode cX11_copy 51 = .ok (.iload_n 3, 1) := by decide +kernel
theorem dX11_copy_52 : decode cX11_copy 52 = .ok (.aload_n 0, 1) := by decide +kernel
theorem dX11_copy_53 : decode cX11_copy 53 = .ok (.getfield 7, 3) := by decide +kernel
theorem dX11_copy_56 : decode cX11_copy 56 = .ok (.iload_n 1, 1) := by decide +kernel
theorem dX11_copy_57 : decode cX11_copy 57 = .ok (.iload_n 3, 1) := by decide +kernel
theorem dX11_copy_58 : decode cX11_copy 58 = .ok (.iadd, 1) := by decide +kernel
theorem dX11_copy_59 : decode cX11_copy 59 = .ok (.iaload, 1) := by decide +kernel
theorem dX11_copy_60 : decode cX11_copy 60 = .ok (.iastore, 1) := by decide +kernel
theorem dX11_copy_61 : decode cX11_copy 61 = .ok (.iinc 3 1, 3) := by decide +kernel
theorem dX11_copy_64 : decode cX11_copy 64 = .ok (.goto (-22), 3) := by decide +kernel
theorem dX11_copy_67 : decode cX11_copy 67 = .ok (.aload_n 0, 1) := by decide +kernel
theorem dX11_copy_68 : decode cX11_copy 68 = .ok (.iload_n 2, 1) := by decide +kernel
theorem dX11_copy_69 : decode cX11_copy 69 = .ok (.putfield 340, 3) := by decide +kernel
theorem dX11_copy_72 : decode cX11_copy 72 = .ok (.iload_n 2, 1) := by decide +kernel
theorem dX11_copy_73 : decode cX11_copy 73 = .ok (.ireturn, 1) := by decide +kernel
theorem vc_X11_copy_0 {G : zG} {d : Nat} {Q : Option zV → zHp → Prop} (p1 : Int) (p2 : Int) (h : zHp) (hS : zSh h) (hd : 1 ≤ d) (I_42 : Int → Int → Int → zHp → Prop) (hI_42 : ∀ (y1 : Int) (y2 : Int) (y3 : Int) (h' : zHp), I_42 y1 y2 y3 h' → wpN G d M_X11_copy 42 [(0, vR 343), (1, vI y1), (2, vI y2), (3, vI y3)] [] h' Q) 
    (hv : (wpN G (d - 1) M_X11_size 0 (zar 0 [vR 343]) [] h (qI (fun z1 h2 => zSh h2 ∧ (wpN G (d - 1) M_X11_in 0 (zar 0 [vL p1, vL 0, vL z1]) [] h2 (qI (fun z5 h6 => zSh h6 ∧ ((z5 = 0 → Q (some (vI (-1001))) h6) ∧ (z5 ≠ 0 → (wpN G (d - 1) M_X11_in 0 (zar 0 [vL p2, vL 0, vL 32]) [] h6 (qI (fun z10 h11 => zSh h11 ∧ ((z10 = 0 → Q (some (vI (-1001))) h11) ∧ (z10 ≠ 0 → ((-2147483648 ≤ p1 + p2 ∧ p1 + p2 ≤ 2147483647) ∧ (wpN G (d - 1) M_X11_size 0 (zar 0 [vR 343]) [] h11 (qI (fun z15 h16 => zSh h16 ∧ (((p1 + p2) ≤ z15 → (zSh h16 → I_42 p1 p2 0 h16)) ∧ (z15 < (p1 + p2) → Q (some (vI (-1001))) h16)))))))))))))))))))) : wpN G d M_X11_copy 0 [(0, vR 343), (1, vI p1), (2, vI p2)] [] h Q := by
  refine wq_iload_n 1 rfl rfl dX11_copy_0 ?_
  refine wq_i2l dX11_copy_1 ?_
  refine wq_lconst (z := 0) (zlitL rfl) rfl dX11_copy_2 ?_
  refine wq_aload_n 0 rfl rfl dX11_copy_3 ?_
  refine wN_V (As := []) vm_X11_size lk_X11_218 tT_343 rfl rfl (Nat.le_of_ble_eq_true rfl) (Nat.le_of_ble_eq_true rfl) (d' := d - 1) (by omega) dX11_copy_4 hv (fun v9 h2 q3 => ?_)
  obtain ⟨z1, rfl, hS4, q3⟩ := q3
  refine wq_st (st' := [vI z1, vL 0, vL p1]) rfl ?_
  refine wq_i2l dX11_copy_7 ?_
  refine wN_S (As := [vL p1, vL 0, vL z1]) md_X11_in ms_X11_in lk_X11_91 rfl rfl (Nat.le_of_ble_eq_true rfl) (Nat.le_of_ble_eq_true rfl) (d' := d - 1) (by omega) dX11_copy_8 q3 (fun v9 h6 q7 => ?_)
  obtain ⟨z5, rfl, hS8, q7⟩ := q7
  refine wq_st (st' := [vI z5]) rfl ?_
  refine wq_if_eq 36 rfl dX11_copy_11 (fun c9 => ?_) (fun c9 => ?_)
  · refine wq_sipush (z := -1001) (zlit rfl) rfl dX11_copy_36 ?_
    exact wp_iret rfl dX11_copy_39 (q7.1 c9)
  · refine wq_iload_n 2 rfl rfl dX11_copy_14 ?_
    refine wq_i2l dX11_copy_15 ?_
    refine wq_lconst (z := 0) (zlitL rfl) rfl dX11_copy_16 ?_
    refine wq_ldc2_w (z := 32) (zlitL rfl) kc_X11_338 dX11_copy_17 ?_
    refine wN_S (As := [vL p2, vL 0, vL 32]) md_X11_in ms_X11_in lk_X11_91 rfl rfl (Nat.le_of_ble_eq_true rfl) (Nat.le_of_ble_eq_true rfl) (d' := d - 1) (by omega) dX11_copy_20 (q7.2 c9) (fun v9 h11 q12 => ?_)
    obtain ⟨z10, rfl, hS13, q12⟩ := q12
    refine wq_st (st' := [vI z10]) rfl ?_
    refine wq_if_eq 36 rfl dX11_copy_23 (fun c14 => ?_) (fun c14 => ?_)
    · refine wq_sipush (z := -1001) (zlit rfl) rfl dX11_copy_36 ?_
      exact wp_iret rfl dX11_copy_39 (q12.1 c14)
    · refine wq_iload_n 1 rfl rfl dX11_copy_26 ?_
      refine wq_iload_n 2 rfl rfl dX11_copy_27 ?_
      refine wq_iadd (q12.2 c14).1 dX11_copy_28 ?_
      refine wq_aload_n 0 rfl rfl dX11_copy_29 ?_
      refine wN_V (As := []) vm_X11_size lk_X11_218 tT_343 rfl rfl (Nat.le_of_ble_eq_true rfl) (Nat.le_of_ble_eq_true rfl) (d' := d - 1) (by omega) dX11_copy_30 (q12.2 c14).2 (fun v9 h16 q17 => ?_)
      obtain ⟨z15, rfl, hS18, q17⟩ := q17
      refine wq_st (st' := [vI z15, vI (p1 + p2)]) rfl ?_
      refine wq_icmp_le 40 rfl dX11_copy_33 (fun c19 => ?_) (fun c19 => ?_)
      · refine wq_iconst (z := 0) (zlit rfl) dX11_copy_40 ?_
        refine wq_istore_n (ls' := [(0, vR 343), (1, vI p1), (2, vI p2), (3, vI 0)]) rfl (by decide) rfl dX11_copy_41 ?_
        exact wq_pick [0, 1, 2, 3] rfl (hI_42 p1 p2 0 h16 ((q17.1 c19) hS18))
      · refine wq_sipush (z := -1001) (zlit rfl) rfl dX11_copy_36 ?_
        exact wp_iret rfl dX11_copy_39 (q17.2 c19)
theorem vc_X11_copy_42 {G : zG} {d : Nat} {Q : Option zV → zHp → Prop} (y1 : Int) (y2 : Int) (y3 : Int) (h : zHp) (hS : zSh h) (hd : 1 ≤ d) (I_42 : Int → Int → Int → zHp → Prop) (hI_42 : ∀ (y1 : Int) (y2 : Int) (y3 : Int) (h' : zHp), I_42 y1 y2 y3 h' → wpN G d M_X11_copy 42 [(0, vR 343), (1, vI y1), (2, vI y2), (3, vI y3)] [] h' Q) 
    (hv : ((y2 ≤ y3 → (∀ h2 : zHp, h2 = sI h 343 8 y2 → Q (some (vI y2)) h2)) ∧ (y3 < y2 → ((-2147483648 ≤ y1 + y3 ∧ y1 + y3 ≤ 2147483647) ∧ (((0 : Int) ≤ (y1 + y3) ∧ (y1 + y3) < ((213 : Nat) : Int)) ∧ (((0 : Int) ≤ y3 ∧ y3 < ((32 : Nat) : Int)) ∧ (∀ h4 : zHp, h4 = sI h 348 y3.toNat (gI h 344 (y1 + y3).toNat) → ((-2147483648 ≤ y3 + 1 ∧ y3 + 1 ≤ 2147483647) ∧ ∀ x6 : Int, x6 = y3 + 1 → (zSh h4 → I_42 y1 y2 x6 h4))))))))) : wpN G d M_X11_copy 42 [(0, vR 343), (1, vI y1), (2, vI y2), (3, vI y3)] [] h Q := by
  refine wq_iload_n 3 rfl rfl dX11_copy_42 ?_
  refine wq_iload_n 2 rfl rfl dX11_copy_43 ?_
  refine wq_icmp_ge 67 rfl dX11_copy_44 (fun c1 => ?_) (fun c1 => ?_)
  · refine wq_aload_n 0 rfl rfl dX11_copy_67 ?_
    refine wq_iload_n 2 rfl rfl dX11_copy_68 ?_
    refine wq_putI fk_X11_340 tT_343 rfl rfl dX11_copy_69 ?_
    refine wq_toph (fun h2 e3 => ?_)
    have sh2 : zSh h2 := zSh_of e3 hS
    refine wq_iload_n 2 rfl rfl dX11_copy_72 ?_
    exact wp_iret rfl dX11_copy_73 ((hv.1 c1) h2 e3)
  · refine wq_aload_n 0 rfl rfl dX11_copy_47 ?_
    refine wq_getR fk_X11_22 tT_343 (fun _ _ _ => rfl) (sh_11_7 hS) (by decide) dX11_copy_48 ?_
    refine wq_iload_n 3 rfl rfl dX11_copy_51 ?_
    refine wq_aload_n 0 rfl rfl dX11_copy_52 ?_
    refine wq_getR fk_X11_7 tT_343 (fun _ _ _ => rfl) (sh_11_0 hS) (by decide) dX11_copy_53 ?_
    refine wq_iload_n 1 rfl rfl dX11_copy_56 ?_
    refine wq_iload_n 3 rfl rfl dX11_copy_57 ?_
    refine wq_iadd (hv.2 c1).1 dX11_copy_58 ?_
    refine wq_iald tT_344 (hv.2 c1).2.1.1 (hv.2 c1).2.1.2 dX11_copy_59 ?_
    refine wq_iast tT_348 (hv.2 c1).2.2.1.1 (hv.2 c1).2.2.1.2 dX11_copy_60 ?_
    refine wq_toph (fun h4 e5 => ?_)
    have sh4 : zSh h4 := zSh_of e5 hS
    refine z_nm (y3 + 1) (fun x6 e7 => ?_)
    refine wq_iinc (y := x6) (ls' := [(0, vR 343), (1, vI y1), (2, vI y2), (3, vI x6)]) 3 rfl e7.symm (by rw [e7]; exact ((hv.2 c1).2.2.2 h4 e5).1) (by decide) rfl dX11_copy_61 ?_
    refine wq_goto 42 rfl dX11_copy_64 ?_
    exact wq_pick [0, 1, 2, 3] rfl (hI_42 y1 y2 x6 h4 ((((hv.2 c1).2.2.2 h4 e5).2 x6 e7) sh4))
theorem dX11_paste_0 : decode cX11_paste 0 = .ok (.iload_n 1, 1) := by decide +kernel
theorem dX11_paste_1 : decode cX11_paste 1 = .ok (.i2l, 1) := by decide +kernel
theorem dX11_paste_2 : decode cX11_paste 2 = .ok (.lconst 0, 1) := by decide +kernel
theorem dX11_paste_3 : decode cX11_paste 3 = .ok (.aload_n 0, 1) := by decide +kernel
theorem dX11_paste_4 : decode cX11_paste 4 = .ok (.invokevirtual 218, 3) := by decide +kernel
theorem dX11_paste_7 : decode cX11_paste 7 = .ok (.i2l, 1) := by decide +kernel
theorem dX11_paste_8 : decode cX11_paste 8 = .ok (.invokestatic 91, 3) := by decide +kernel
theorem dX11_paste_11 : decode cX11_paste 11 = .ok (.ifCond .ne 7, 3) := by decide +kernel
theorem dX11_paste_14 : decode cX11_paste 14 = .ok (.sipush (-1001), 3) := by decide +kernel
theorem dX11_paste_17 : decode cX11_paste 17 = .ok (.ireturn, 1) := by decide +kernel
theorem dX11_paste_18 : decode cX11_paste 18 = .ok (.aload_n 0, 1) := by decide +kernel
theorem dX11_paste_19 : decode cX11_paste 19 = .ok (.getfield 340, 3) := by decide +kernel
theorem dX11_paste_22 : decode cX11_paste 22 = .ok (.ifCond .ne 7, 3) := by decide +kernel
theorem dX11_paste_25 : decode cX11_paste 25 = .ok (.sipush (-1002), 3) := by decide +kernel
theorem dX11_paste_28 : decode cX11_paste 28 = .ok (.ireturn, 1) := by decide +kernel
theorem dX11_paste_29 : decode cX11_paste 29 = .ok (.aload_n 0, 1) := by decide +kernel
theorem dX11_paste_30 : decode cX11_paste 30 = .ok (.invokevirtual 218, 3) := by decide +kernel
theorem dX11_paste_33 : decode cX11_paste 33 = .ok (.aload_n 0, 1) := by decide +kernel
theorem dX11_paste_34 : decode cX11_paste 34 = .ok (.getfield 340, 3) := by decide +kernel
theorem dX11_paste_37 : decode cX11_paste 37 = .ok (.iadd, 1) := by decide +kernel
theorem dX11_paste_38 : decode cX11_paste 38 = .ok (.sipush 200, 3) := by decide +kernel
theorem dX11_paste_41 : decode cX11_paste 41 = .ok (.if_icmp .le 7, 3) := by decide +kernel
theorem dX11_paste_44 : decode cX11_paste 44 = .ok (.sipush (-1003), 3) := by decide +kernel
theorem dX11_paste_47 : decode cX11_paste 47 = .ok (.ireturn, 1) := by decide +kernel
theorem dX11_paste_48 : decode cX11_paste 48 = .ok (.aload_n 0, 1) := by decide +kernel
theorem dX11_paste_49 : decode cX11_paste 49 = .ok (.invokevirtual 328, 3) := by decide +kernel
theorem dX11_paste_52 : decode cX11_paste 52 = .ok (.aload_n 0, 1) := by decide +kernel
theorem dX11_paste_53 : decode cX11_paste 53 = .ok (.iload_n 1, 1) := by decide +kernel
theorem dX11_paste_54 : decode cX11_paste 54 = .ok (.aload_n 0, 1) := by decide +kernel
theorem dX11_paste_55 : decode cX11_paste 55 = .ok (.getfield 340, 3) := by decide +kernel
theorem dX11_paste_58 : decode cX11_paste 58 = .ok (.invokevirtual 331, 3) := by decide +kernel
theorem dX11_paste_61 : decode cX11_paste 61 = .ok (.iconst 0, 1) := by decide +kernel
theorem dX11_paste_62 : decode cX11_paste 62 = .ok (.istore_n 2, 1) := by decide +kernel
theorem dX11_paste_63 : decode cX11_paste 63 = .ok (.iload_n 2, 1) := by decide +kernel
theorem dX11_paste_64 : decode cX11_paste 64 = .ok (.aload_n 0, 1) := by decide +kernel
theorem dX11_paste_65 : decode cX11_paste 65 = .ok (.getfield 340, 3) := by decide +kernel
theorem dX11_paste_68 : decode cX11_paste 68 = .ok (.if_icmp .ge 23, 3) := by decide +kernel
theorem dX11_paste_71 : decode cX11_paste 71 = .ok (.aload_n 0, 1) := by decide +kernel
theorem dX11_paste_72 : decode cX11_paste 72 = .ok (.getfield 7, 3) := by decide +kernel
theorem dX11_paste_75 : decode cX11_paste 75 = .ok (.iload_n 1, 1) := by decide +kernel
theorem dX11_paste_76 : decode cX11_paste 76 = .ok (.iload_n 2, 1) := by decide +kernel
theorem dX11_paste_77 : decode cX11_paste 77 = .ok (.iadd, 1) := by decide +kernel
theorem dX11_paste_78 : decode cX11_paste 78 = .ok (.aload_n 0, 1) := by decide +kernel
theorem dX11_paste_79 : decode cX11_paste 79 = .ok (.getfield 22, 3) := by decide +kernel
theorem dX11_paste_82 : decode cX11_paste 82 = .ok (.iload_n 2, 1) := by decide +kernel
theorem dX11_paste_83 : decode cX11_paste 83 = .ok (.iaload, 1) := by decide +kernel
theorem dX11_paste_84 : decode cX11_paste 84 = .ok (.iastore, 1) := by decide +kernel
theorem dX11_paste_85 : decode cX11_paste 85 = .ok (.iinc 2 1, 3) := by decide +kernel
theorem dX11_paste_88 : decode cX11_paste 88 = .ok (.goto (-25), 3) := by decide +kernel
theorem dX11_paste_91 : decode cX11_paste 91 = .ok (.aload_n 0, 1) := by decide +kernel
theorem dX11_paste_92 : decode cX11_paste 92 = .ok (.iconst 1, 1) := by decide +kernel
theorem dX11_paste_93 : decode cX11_paste 93 = .ok (.invokevirtual 334, 3) := by decide +kernel
theorem dX11_paste_96 : decode cX11_paste 96 = .ok (.ifCond .eq 10, 3) := by decide +kernel
theorem dX11_paste_99 : decode cX11_paste 99 = .ok (.aload_n 0, 1) := by decide +kernel
theorem dX11_paste_100 : decode cX11_paste 100 = .ok (.invokevirtual 218, 3) := by decide +kernel
theorem dX11_paste_103 : decode cX11_paste 103 = .ok (.goto 6, 3) := by decide +kernel
theorem dX11_paste_106 : decode cX11_paste 106 = .ok (.sipush (-1005), 3) := by decide +kernel
theorem dX11_paste_109 : decode cX11_paste 109 = .ok (.ireturn, 1) := by decide +kernel
theorem vc_X11_paste_0 {G : zG} {d : Nat} {Q : Option zV → zHp → Prop} (p1 : Int) (h : zHp) (hS : zSh h) (hd : 8 ≤ d) (I_63 : Int → Int → zHp → Prop) (hI_63 : ∀ (y1 : Int) (y2 : Int) (h' : zHp), I_63 y1 y2 h' → wpN G d M_X11_paste 63 [(0, vR 343), (1, vI y1), (2, vI y2)] [] h' Q) 
    (hv : (wpN G (d - 1) M_X11_size 0 (zar 0 [vR 343]) [] h (qI (fun z1 h2 => zSh h2 ∧ (wpN G (d - 1) M_X11_in 0 (zar 0 [vL p1, vL 0, vL z1]) [] h2 (qI (fun z5 h6 => zSh h6 ∧ ((z5 ≠ 0 → (((gI h6 343 8) ≠ 0 → (wpN G (d - 1) M_X11_size 0 (zar 0 [vR 343]) [] h6 (qI (fun z11 h12 => zSh h12 ∧ ((-2147483648 ≤ z11 + (gI h12 343 8) ∧ z11 + (gI h12 343 8) ≤ 2147483647) ∧ (((z11 + (gI h12 343 8)) ≤ 200 → (wpN G (d - 1) M_X11_keeps 0 (zar 0 [vR 343]) [] h12 (qV (fun h17 => zSh h17 ∧ (wpN G (d - 1) M_X11_opens 0 (zar 0 [vR 343, vI p1, vI (gI h17 343 8)]) [] h17 (qV (fun h21 => zSh h21 ∧ (zSh h21 → I_63 p1 0 h21)))))))) ∧ (200 < (z11 + (gI h12 343 8)) → Q (some (vI (-1003))) h12))))))) ∧ ((gI h6 343 8) = 0 → Q (some (vI (-1002))) h6))) ∧ (z5 = 0 → Q (some (vI (-1001))) h6))))))))) : wpN G d M_X11_paste 0 [(0, vR 343), (1, vI p1)] [] h Q := by
  refine wq_iload_n 1 rfl rfl dX11_paste_0 ?_
  refine wq_i2l dX11_paste_1 ?_
  refine wq_lconst (z := 0) (zlitL rfl) rfl dX11_paste_2 ?_
  refine wq_aload_n 0 rfl rfl dX11_paste_3 ?_
  refine wN_V (As := []) vm_X11_size lk_X11_218 tT_343 rfl rfl (Nat.le_of_ble_eq_true rfl) (Nat.le_of_ble_eq_true rfl) (d' := d - 1) (by omega) dX11_paste_4 hv (fun v9 h2 q3 => ?_)
  obtain ⟨z1, rfl, hS4, q3⟩ := q3
  refine wq_st (st' := [vI z1, vL 0, vL p1]) rfl ?_
  refine wq_i2l dX11_paste_7 ?_
  refine wN_S (As := [vL p1, vL 0, vL z1]) md_X11_in ms_X11_in lk_X11_91 rfl rfl (Nat.le_of_ble_eq_true rfl) (Nat.le_of_ble_eq_true rfl) (d' := d - 1) (by omega) dX11_paste_8 q3 (fun v9 h6 q7 => ?_)
  obtain ⟨z5, rfl, hS8, q7⟩ := q7
  refine wq_st (st' := [vI z5]) rfl ?_
  refine wq_if_ne 18 rfl dX11_paste_11 (fun c9 => ?_) (fun c9 => ?_)
  · refine wq_aload_n 0 rfl rfl dX11_paste_18 ?_
    refine wq_getI fk_X11_340 tT_343 (fun _ _ _ => rfl) dX11_paste_19 ?_
    refine wq_if_ne 29 rfl dX11_paste_22 (fun c10 => ?_) (fun c10 => ?_)
    · refine wq_aload_n 0 rfl rfl dX11_paste_29 ?_
      refine wN_V (As := []) vm_X11_size lk_X11_218 tT_343 rfl rfl (Nat.le_of_ble_eq_true rfl) (Nat.le_of_ble_eq_true rfl) (d' := d - 1) (by omega) dX11_paste_30 ((q7.1 c9).1 c10) (fun v9 h12 q13 => ?_)
      obtain ⟨z11, rfl, hS14, q13⟩ := q13
      refine wq_st (st' := [vI z11]) rfl ?_
      refine wq_aload_n 0 rfl rfl dX11_paste_33 ?_
      refine wq_getI fk_X11_340 tT_343 (fun _ _ _ => rfl) dX11_paste_34 ?_
      refine wq_iadd q13.1 dX11_paste_37 ?_
      refine wq_sipush (z := 200) (zlit rfl) rfl dX11_paste_38 ?_
      refine wq_icmp_le 48 rfl dX11_paste_41 (fun c15 => ?_) (fun c15 => ?_)
      · refine wq_aload_n 0 rfl rfl dX11_paste_48 ?_
        refine wN_V (As := []) vm_X11_keeps lk_X11_328 tT_343 rfl rfl (Nat.le_of_ble_eq_true rfl) (Nat.le_of_ble_eq_true rfl) (d' := d - 1) (by omega) dX11_paste_49 (q13.2.1 c15) (fun v9 h17 q18 => ?_)
        obtain ⟨rfl, hS19, q18⟩ := q18
        refine wq_st (st' := []) rfl ?_
        refine wq_aload_n 0 rfl rfl dX11_paste_52 ?_
        refine wq_iload_n 1 rfl rfl dX11_paste_53 ?_
        refine wq_aload_n 0 rfl rfl dX11_paste_54 ?_
        refine wq_getI fk_X11_340 tT_343 (fun _ _ _ => rfl) dX11_paste_55 ?_
        refine wN_V (As := [vI p1, vI (gI h17 343 8)]) vm_X11_opens lk_X11_331 tT_343 rfl rfl (Nat.le_of_ble_eq_true rfl) (Nat.le_of_ble_eq_true rfl) (d' := d - 1) (by omega) dX11_paste_58 q18 (fun v9 h21 q22 => ?_)
        obtain ⟨rfl, hS23, q22⟩ := q22
        refine wq_st (st' := []) rfl ?_
        refine wq_iconst (z := 0) (zlit rfl) dX11_paste_61 ?_
        refine wq_istore_n (ls' := [(0, vR 343), (1, vI p1), (2, vI 0)]) rfl (by decide) rfl dX11_paste_62 ?_
        exact wq_pick [0, 1, 2] rfl (hI_63 p1 0 h21 (q22 hS23))
      · refine wq_sipush (z := -1003) (zlit rfl) rfl dX11_paste_44 ?_
        exact wp_iret rfl dX11_paste_47 (q13.2.2 c15)
    · refine wq_sipush (z := -1002) (zlit rfl) rfl dX11_paste_25 ?_
      exact wp_iret rfl dX11_paste_28 ((q7.1 c9).2 c10)
  · refine wq_sipush (z := -1001) (zlit rfl) rfl dX11_paste_14 ?_
    exact wp_iret rfl dX11_paste_17 (q7.2 c9)
theorem vc_X11_paste_63 {G : zG} {d : Nat} {Q : Option zV → zHp → Prop} (y1 : Int) (y2 : Int) (h : zHp) (hS : zSh h) (hd : 8 ≤ d) (I_63 : Int → Int → zHp → Prop) (hI_63 : ∀ (y1 : Int) (y2 : Int) (h' : zHp), I_63 y1 y2 h' → wpN G d M_X11_paste 63 [(0, vR 343), (1, vI y1), (2, vI y2)] [] h' Q) 
    (hv : (((gI h 343 8) ≤ y2 → (wpN G (d - 1) M_X11_stays 0 (zar 0 [vR 343, vI 1]) [] h (qI (fun z2 h3 => zSh h3 ∧ ((z2 = 0 → Q (some (vI (-1005))) h3) ∧ (z2 ≠ 0 → (wpN G (d - 1) M_X11_size 0 (zar 0 [vR 343]) [] h3 (qI (fun z7 h8 => zSh h8 ∧ Q (some (vI z7)) h8))))))))) ∧ (y2 < (gI h 343 8) → ((-2147483648 ≤ y1 + y2 ∧ y1 + y2 ≤ 2147483647) ∧ (((0 : Int) ≤ y2 ∧ y2 < ((32 : Nat) : Int)) ∧ (((0 : Int) ≤ (y1 + y2) ∧ (y1 + y2) < ((213 : Nat) : Int)) ∧ (∀ h11 : zHp, h11 = sI h 344 (y1 + y2).toNat (gI h 348 y2.toNat) → ((-2147483648 ≤ y2 + 1 ∧ y2 + 1 ≤ 2147483647) ∧ ∀ x13 : Int, x13 = y2 + 1 → (zSh h11 → I_63 y1 x13 h11))))))))) : wpN G d M_X11_paste 63 [(0, vR 343), (1, vI y1), (2, vI y2)] [] h Q := by
  refine wq_iload_n 2 rfl rfl dX11_paste_63 ?_
  refine wq_aload_n 0 rfl rfl dX11_paste_64 ?_
  refine wq_getI fk_X11_340 tT_343 (fun _ _ _ => rfl) dX11_paste_65 ?_
  refine wq_icmp_ge 91 rfl dX11_paste_68 (fun c1 => ?_) (fun c1 => ?_)
  · refine wq_aload_n 0 rfl rfl dX11_paste_91 ?_
    refine wq_iconst (z := 1) (zlit rfl) dX11_paste_92 ?_
    refine wN_V (As := [vI 1]) vm_X11_stays lk_X11_334 tT_343 rfl rfl (Nat.le_of_ble_eq_true rfl) (Nat.le_of_ble_eq_true rfl) (d' := d - 1) (by omega) dX11_paste_93 (hv.1 c1) (fun v9 h3 q4 => ?_)
    obtain ⟨z2, rfl, hS5, q4⟩ := q4
    refine wq_st (st' := [vI z2]) rfl ?_
    refine wq_if_eq 106 rfl dX11_paste_96 (fun c6 => ?_) (fun c6 => ?_)
    · refine wq_sipush (z := -1005) (zlit rfl) rfl dX11_paste_106 ?_
      exact wp_iret rfl dX11_paste_109 (q4.1 c6)
    · refine wq_aload_n 0 rfl rfl dX11_paste_99 ?_
      refine wN_V (As := []) vm_X11_size lk_X11_218 tT_343 rfl rfl (Nat.le_of_ble_eq_true rfl) (Nat.le_of_ble_eq_true rfl) (d' := d - 1) (by omega) dX11_paste_100 (q4.2 c6) (fun v9 h8 q9 => ?_)
      obtain ⟨z7, rfl, hS10, q9⟩ := q9
      refine wq_st (st' := [vI z7]) rfl ?_
      refine wq_goto 109 rfl dX11_paste_103 ?_
      exact wp_iret rfl dX11_paste_109 q9
  · refine wq_aload_n 0 rfl rfl dX11_paste_71 ?_
    refine wq_getR fk_X11_7 tT_343 (fun _ _ _ => rfl) (sh_11_0 hS) (by decide) dX11_paste_72 ?_
    refine wq_iload_n 1 rfl rfl dX11_paste_75 ?_
    refine wq_iload_n 2 rfl rfl dX11_paste_76 ?_
    refine wq_iadd (hv.2 c1).1 dX11_paste_77 ?_
    refine wq_aload_n 0 rfl rfl dX11_paste_78 ?_
    refine wq_getR fk_X11_22 tT_343 (fun _ _ _ => rfl) (sh_11_7 hS) (by decide) dX11_paste_79 ?_
    refine wq_iload_n 2 rfl rfl dX11_paste_82 ?_
    refine wq_iald tT_348 (hv.2 c1).2.1.1 (hv.2 c1).2.1.2 dX11_paste_83 ?_
    refine wq_iast tT_344 (hv.2 c1).2.2.1.1 (hv.2 c1).2.2.1.2 dX11_paste_84 ?_
    refine wq_toph (fun h11 e12 => ?_)
    have sh11 : zSh h11 := zSh_of e12 hS
    refine z_nm (y2 + 1) (fun x13 e14 => ?_)
    refine wq_iinc (y := x13) (ls' := [(0, vR 343), (1, vI y1), (2, vI x13)]) 2 rfl e14.symm (by rw [e14]; exact ((hv.2 c1).2.2.2 h11 e12).1) (by decide) rfl dX11_paste_85 ?_
    refine wq_goto 63 rfl dX11_paste_88 ?_
    exact wq_pick [0, 1, 2] rfl (hI_63 y1 x13 h11 ((((hv.2 c1).2.2.2 h11 e12).2 x13 e14) sh11))
theorem dX11_pasteOver_0 : decode cX11_pasteOver 0 = .ok (.iload_n 1, 1) := by decide +kernel
theorem dX11_pasteOver_1 : decode cX11_pasteOver 1 = .ok (.i2l, 1) := by decide +kernel
theorem dX11_pasteOver_2 : decode cX11_pasteOver 2 = .ok (.lconst 0, 1) := by decide +kernel
theorem dX11_pasteOver_3 : decode cX11_pasteOver 3 = .ok (.aload_n 0, 1) := by decide +kernel
theorem dX11_pasteOver_4 : decode cX11_pasteOver 4 = .ok (.invokevirtual 218, 3) := by decide +kernel
theorem dX11_pasteOver_7 : decode cX11_pasteOver 7 = .ok (.i2l, 1) := by decide +kernel
theorem dX11_pasteOver_8 : decode cX11_pasteOver 8 = .ok (.invokestatic 91, 3) := by decide +kernel
theorem dX11_pasteOver_11 : decode cX11_pasteOver 11 = .ok (.ifCond .ne 7, 3) := by decide +kernel
theorem dX11_pasteOver_14 : decode cX11_pasteOver 14 = .ok (.sipush (-1001), 3) := by decide +kernel
theorem dX11_pasteOver_17 : decode cX11_pasteOver 17 = .ok (.ireturn, 1) := by decide +kernel
theorem dX11_pasteOver_18 : decode cX11_pasteOver 18 = .ok (.aload_n 0, 1) := by decide +kernel
theorem dX11_pasteOver_19 : decode cX11_pasteOver 19 = .ok (.getfield 340, 3) := by decide +kernel
theorem dX11_pasteOver_22 : decode cX11_pasteOver 22 = .ok (.ifCond .ne 7, 3) := by decide +kernel
theorem dX11_pasteOver_25 : decode cX11_pasteOver 25 = .ok (.sipush (-1002), 3) := by decide +kernel
theorem dX11_pasteOver_28 : decode cX11_pasteOver 28 = .ok (.ireturn, 1) := by decide +kernel
theorem dX11_pasteOver_29 : decode cX11_pasteOver 29 = .ok (.iload_n 1, 1) := by decide +kernel
theorem dX11_pasteOver_30 : decode cX11_pasteOver 30 = .ok (.aload_n 0, 1) := by decide +kernel
theorem dX11_pasteOver_31 : decode cX11_pasteOver 31 = .ok (.getfield 340, 3) := by decide +kernel
theorem dX11_pasteOver_34 : decode cX11_pasteOver 34 = .ok (.iadd, 1) := by decide +kernel
theorem dX11_pasteOver_35 : decode cX11_pasteOver 35 = .ok (.aload_n 0, 1) := by decide +kernel
theorem dX11_pasteOver_36 : decode cX11_pasteOver 36 = .ok (.invokevirtual 218, 3) := by decide +kernel
theorem dX11_pasteOver_39 : decode cX11_pasteOver 39 = .ok (.if_icmp .le 7, 3) := by decide +kernel
theorem dX11_pasteOver_42 : decode cX11_pasteOver 42 = .ok (.sipush (-1003), 3) := by decide +kernel
theorem dX11_pasteOver_45 : decode cX11_pasteOver 45 = .ok (.ireturn, 1) := by decide +kernel
theorem dX11_pasteOver_46 : decode cX11_pasteOver 46 = .ok (.aload_n 0, 1) := by decide +kernel
theorem dX11_pasteOver_47 : decode cX11_pasteOver 47 = .ok (.invokevirtual 328, 3) := by decide +kernel
theorem dX11_pasteOver_50 : decode cX11_pasteOver 50 = .ok (.iconst 0, 1) := by decide +kernel
theorem dX11_pasteOver_51 : decode cX11_pasteOver 51 = .ok (.istore_n 2, 1) := by decide +kernel
theorem dX11_pasteOver_52 : decode cX11_pasteOver 52 = .ok (.iload_n 2, 1) := by decide +kernel
theorem dX11_pasteOver_53 : decode cX11_pasteOver 53 = .ok (.aload_n 0, 1) := by decide +kernel
theorem dX11_pasteOver_54 : decode cX11_pasteOver 54 = .ok (.getfield 340, 3) := by decide +kernel
theorem dX11_pasteOver_57 : decode cX11_pasteOver 57 = .ok (.if_icmp .ge 23, 3) := by decide +kernel
theorem dX11_pasteOver_60 : decode cX11_pasteOver 60 = .ok (.aload_n 0, 1) := by decide +kernel
theorem dX11_pasteOver_61 : decode cX11_pasteOver 61 = .ok (.getfield 7, 3) := by decide +kernel
theorem dX11_pasteOver_64 : decode cX11_pasteOver 64 = .ok (.iload_n 1, 1) := by decide +kernel
theorem dX11_pasteOver_65 : decode cX11_pasteOver 65 = .ok (.iload_n 2, 1) := by decide +kernel
theorem dX11_pasteOver_66 : decode cX11_pasteOver 66 = .ok (.iadd, 1) := by decide +kernel
theorem dX11_pasteOver_67 : decode cX11_pasteOver 67 = .ok (.aload_n 0, 1) := by decide +kernel
theorem dX11_pasteOver_68 : decode cX11_pasteOver 68 = .ok (.getfield 22, 3) := by decide +kernel
theorem dX11_pasteOver_71 : decode cX11_pasteOver 71 = .ok (.iload_n 2, 1) := by decide +kernel
theorem dX11_pasteOver_72 : decode cX11_pasteOver 72 = .ok (.iaload, 1) := by decide +kernel
theorem dX11_pasteOver_73 : decode cX11_pasteOver 73 = .ok (.iastore, 1) := by decide +kernel
theorem dX11_pasteOver_74 : decode cX11_pasteOver 74 = .ok (.iinc 2 1, 3) := by decide +kernel
theorem dX11_pasteOver_77 : decode cX11_pasteOver 77 = .ok (.goto (-25), 3) := by decide +kernel
theorem dX11_pasteOver_80 : decode cX11_pasteOver 80 = .ok (.aload_n 0, 1) := by decide +kernel
theorem dX11_pasteOver_81 : decode cX11_pasteOver 81 = .ok (.iconst 1, 1) := by decide +kernel
theorem dX11_pasteOver_82 : decode cX11_pasteOver 82 = .ok (.invokevirtual 334, 3) := by decide +kernel
theorem dX11_pasteOver_85 : decode cX11_pasteOver 85 = .ok (.ifCond .eq 10, 3) := by decide +kernel
theorem dX11_pasteOver_88 : decode cX11_pasteOver 88 = .ok (.aload_n 0, 1) := by decide +kernel
theorem dX11_pasteOver_89 : decode cX11_pasteOver 89 = .ok (.getfield 340, 3) := by decide +kernel
theorem dX11_pasteOver_92 : decode cX11_pasteOver 92 = .ok (.goto 6, 3) := by decide +kernel
theorem dX11_pasteOver_95 : decode cX11_pasteOver 95 = .ok (.sipush (-1005), 3) := by decide +kernel
theorem dX11_pasteOver_98 : decode cX11_pasteOver 98 = .ok (.ireturn, 1) := by decide +kernel
theorem vc_X11_pasteOver_0 {G : zG} {d : Nat} {Q : Option zV → zHp → Prop} (p1 : Int) (h : zHp) (hS : zSh h) (hd : 8 ≤ d) (I_52 : Int → Int → zHp → Prop) (hI_52 : ∀ (y1 : Int) (y2 : Int) (h' : zHp), I_52 y1 y2 h' → wpN G d M_X11_pasteOver 52 [(0, vR 343), (1, vI y1), (2, vI y2)] [] h' Q) 
    (hv : (wpN G (d - 1) M_X11_size 0 (zar 0 [vR 343]) [] h (qI (fun z1 h2 => zSh h2 ∧ (wpN G (d - 1) M_X11_in 0 (zar 0 [vL p1, vL 0, vL z1]) [] h2 (qI (fun z5 h6 => zSh h6 ∧ ((z5 ≠ 0 → (((gI h6 343 8) ≠ 0 → ((-2147483648 ≤ p1 + (gI h6 343 8) ∧ p1 + (gI h6 343 8) ≤ 2147483647) ∧ (wpN G (d - 1) M_X11_size 0 (zar 0 [vR 343]) [] h6 (qI (fun z11 h12 => zSh h12 ∧ (((p1 + (gI h6 343 8)) ≤ z11 → (wpN G (d - 1) M_X11_keeps 0 (zar 0 [vR 343]) [] h12 (qV (fun h17 => zSh h17 ∧ (zSh h17 → I_52 p1 0 h17))))) ∧ (z11 < (p1 + (gI h6 343 8)) → Q (some (vI (-1003))) h12))))))) ∧ ((gI h6 343 8) = 0 → Q (some (vI (-1002))) h6))) ∧ (z5 = 0 → Q (some (vI (-1001))) h6))))))))) : wpN G d M_X11_pasteOver 0 [(0, vR 343), (1, vI p1)] [] h Q := by
  refine wq_iload_n 1 rfl rfl dX11_pasteOver_0 ?_
  refine wq_i2l dX11_pasteOver_1 ?_
  refine wq_lconst (z := 0) (zlitL rfl) rfl dX11_pasteOver_2 ?_
  refine wq_aload_n 0 rfl rfl dX11_pasteOver_3 ?_
  refine wN_V (As := []) vm_X11_size lk_X11_218 tT_343 rfl rfl (Nat.le_of_ble_eq_true rfl) (Nat.le_of_ble_eq_true rfl) (d' := d - 1) (by omega) dX11_pasteOver_4 hv (fun v9 h2 q3 => ?_)
  obtain ⟨z1, rfl, hS4, q3⟩ := q3
  refine wq_st (st' := [vI z1, vL 0, vL p1]) rfl ?_
  refine wq_i2l dX11_pasteOver_7 ?_
  refine wN_S (As := [vL p1, vL 0, vL z1]) md_X11_in ms_X11_in lk_X11_91 rfl rfl (Nat.le_of_ble_eq_true rfl) (Nat.le_of_ble_eq_true rfl) (d' := d - 1) (by omega) dX11_pasteOver_8 q3 (fun v9 h6 q7 => ?_)
  obtain ⟨z5, rfl, hS8, q7⟩ := q7
  refine wq_st (st' := [vI z5]) rfl ?_
  refine wq_if_ne 18 rfl dX11_pasteOver_11 (fun c9 => ?_) (fun c9 => ?_)
  · refine wq_aload_n 0 rfl rfl dX11_pasteOver_18 ?_
    refine wq_getI fk_X11_340 tT_343 (fun _ _ _ => rfl) dX11_pasteOver_19 ?_
    refine wq_if_ne 29 rfl dX11_pasteOver_22 (fun c10 => ?_) (fun c10 => ?_)
    · refine wq_iload_n 1 rfl rfl dX11_pasteOver_29 ?_
      refine wq_aload_n 0 rfl rfl dX11_pasteOver_30 ?_
      refine wq_getI fk_X11_340 tT_343 (fun _ _ _ => rfl) dX11_pasteOver_31 ?_
      refine wq_iadd ((q7.1 c9).1 c10).1 dX11_pasteOver_34 ?_
      refine wq_aload_n 0 rfl rfl dX11_pasteOver_35 ?_
      refine wN_V (As := []) vm_X11_size lk_X11_218 tT_343 rfl rfl (Nat.le_of_ble_eq_true rfl) (Nat.le_of_ble_eq_true rfl) (d' := d - 1) (by omega) dX11_pasteOver_36 ((q7.1 c9).1 c10).2 (fun v9 h12 q13 => ?_)
      obtain ⟨z11, rfl, hS14, q13⟩ := q13
      refine wq_st (st' := [vI z11, vI (p1 + (gI h6 343 8))]) rfl ?_
      refine wq_icmp_le 46 rfl dX11_pasteOver_39 (fun c15 => ?_) (fun c15 => ?_)
      · refine wq_aload_n 0 rfl rfl dX11_pasteOver_46 ?_
        refine wN_V (As := []) vm_X11_keeps lk_X11_328 tT_343 rfl rfl (Nat.le_of_ble_eq_true rfl) (Nat.le_of_ble_eq_true rfl) (d' := d - 1) (by omega) dX11_pasteOver_47 (q13.1 c15) (fun v9 h17 q18 => ?_)
        obtain ⟨rfl, hS19, q18⟩ := q18
        refine wq_st (st' := []) rfl ?_
        refine wq_iconst (z := 0) (zlit rfl) dX11_pasteOver_50 ?_
        refine wq_istore_n (ls' := [(0, vR 343), (1, vI p1), (2, vI 0)]) rfl (by decide) rfl dX11_pasteOver_51 ?_
        exact wq_pick [0, 1, 2] rfl (hI_52 p1 0 h17 (q18 hS19))
      · refine wq_sipush (z := -1003) (zlit rfl) rfl dX11_pasteOver_42 ?_
        exact wp_iret rfl dX11_pasteOver_45 (q13.2 c15)
    · refine wq_sipush (z := -1002) (zlit rfl) rfl dX11_pasteOver_25 ?_
      exact wp_iret rfl dX11_pasteOver_28 ((q7.1 c9).2 c10)
  · refine wq_sipush (z := -1001) (zlit rfl) rfl dX11_pasteOver_14 ?_
    exact wp_iret rfl dX11_pasteOver_17 (q7.2 c9)
theorem vc_X11_pasteOver_52 {G : zG} {d : Nat} {Q : Option zV → zHp → Prop} (y1 : Int) (y2 : Int) (h : zHp) (hS : zSh h) (hd : 8 ≤ d) (I_52 : Int → Int → zHp → Prop) (hI_52 : ∀ (y1 : Int) (y2 : Int) (h' : zHp), I_52 y1 y2 h' → wpN G d M_X11_pasteOver 52 [(0, vR 343), (1, vI y1), (2, vI y2)] [] h' Q) 
    (hv : (((gI h 343 8) ≤ y2 → (wpN G (d - 1) M_X11_stays 0 (zar 0 [vR 343, vI 1]) [] h (qI (fun z2 h3 => zSh h3 ∧ ((z2 = 0 → Q (some (vI (-1005))) h3) ∧ (z2 ≠ 0 → Q (some (vI (gI h3 343 8))) h3)))))) ∧ (y2 < (gI h 343 8) → ((-2147483648 ≤ y1 + y2 ∧ y1 + y2 ≤ 2147483647) ∧ (((0 : Int) ≤ y2 ∧ y2 < ((32 : Nat) : Int)) ∧ (((0 : Int) ≤ (y1 + y2) ∧ (y1 + y2) < ((213 : Nat) : Int)) ∧ (∀ h7 : zHp, h7 = sI h 344 (y1 + y2).toNat (gI h 348 y2.toNat) → ((-2147483648 ≤ y2 + 1 ∧ y2 + 1 ≤ 2147483647) ∧ ∀ x9 : Int, x9 = y2 + 1 → (zSh h7 → I_52 y1 x9 h7))))))))) : wpN G d M_X11_pasteOver 52 [(0, vR 343), (1, vI y1), (2, vI y2)] [] h Q := by
  refine wq_iload_n 2 rfl rfl dX11_pasteOver_52 ?_
  refine wq_aload_n 0 rfl rfl dX11_pasteOver_53 ?_
  refine wq_getI fk_X11_340 tT_343 (fun _ _ _ => rfl) dX11_pasteOver_54 ?_
  refine wq_icmp_ge 80 rfl dX11_pasteOver_57 (fun c1 => ?_) (fun c1 => ?_)
  · refine wq_aload_n 0 rfl rfl dX11_pasteOver_80 ?_
    refine wq_iconst (z := 1) (zlit rfl) dX11_pasteOver_81 ?_
    refine wN_V (As := [vI 1]) vm_X11_stays lk_X11_334 tT_343 rfl rfl (Nat.le_of_ble_eq_true rfl) (Nat.le_of_ble_eq_true rfl) (d' := d - 1) (by omega) dX11_pasteOver_82 (hv.1 c1) (fun v9 h3 q4 => ?_)
    obtain ⟨z2, rfl, hS5, q4⟩ := q4
    refine wq_st (st' := [vI z2]) rfl ?_
    refine wq_if_eq 95 rfl dX11_pasteOver_85 (fun c6 => ?_) (fun c6 => ?_)
    · refine wq_sipush (z := -1005) (zlit rfl) rfl dX11_pasteOver_95 ?_
      exact wp_iret rfl dX11_pasteOver_98 (q4.1 c6)
    · refine wq_aload_n 0 rfl rfl dX11_pasteOver_88 ?_
      refine wq_getI fk_X11_340 tT_343 (fun _ _ _ => rfl) dX11_pasteOver_89 ?_
      refine wq_goto 98 rfl dX11_pasteOver_92 ?_
      exact wp_iret rfl dX11_pasteOver_98 (q4.2 c6)
  · refine wq_aload_n 0 rfl rfl dX11_pasteOver_60 ?_
    refine wq_getR fk_X11_7 tT_343 (fun _ _ _ => rfl) (sh_11_0 hS) (by decide) dX11_pasteOver_61 ?_
    refine wq_iload_n 1 rfl rfl dX11_pasteOver_64 ?_
    refine wq_iload_n 2 rfl rfl dX11_pasteOver_65 ?_
    refine wq_iadd (hv.2 c1).1 dX11_pasteOver_66 ?_
    refine wq_aload_n 0 rfl rfl dX11_pasteOver_67 ?_
    refine wq_getR fk_X11_22 tT_343 (fun _ _ _ => rfl) (sh_11_7 hS) (by decide) dX11_pasteOver_68 ?_
    refine wq_iload_n 2 rfl rfl dX11_pasteOver_71 ?_
    refine wq_iald tT_348 (hv.2 c1).2.1.1 (hv.2 c1).2.1.2 dX11_pasteOver_72 ?_
    refine wq_iast tT_344 (hv.2 c1).2.2.1.1 (hv.2 c1).2.2.1.2 dX11_pasteOver_73 ?_
    refine wq_toph (fun h7 e8 => ?_)
    have sh7 : zSh h7 := zSh_of e8 hS
    refine z_nm (y2 + 1) (fun x9 e10 => ?_)
    refine wq_iinc (y := x9) (ls' := [(0, vR 343), (1, vI y1), (2, vI x9)]) 2 rfl e10.symm (by rw [e10]; exact ((hv.2 c1).2.2.2 h7 e8).1) (by decide) rfl dX11_pasteOver_74 ?_
    refine wq_goto 52 rfl dX11_pasteOver_77 ?_
    exact wq_pick [0, 1, 2] rfl (hI_52 y1 x9 h7 ((((hv.2 c1).2.2.2 h7 e8).2 x9 e10) sh7))
theorem dX11_lay_0 : decode cX11_lay 0 = .ok (.iload_n 1, 1) := by decide +kernel
theorem dX11_lay_1 : decode cX11_lay 1 = .ok (.i2l, 1) := by decide +kernel
theorem dX11_lay_2 : decode cX11_lay 2 = .ok (.lconst 0, 1) := by decide +kernel
theorem dX11_lay_3 : decode cX11_lay 3 = .ok (.ldc2_w 89, 3) := by decide +kernel
theorem dX11_lay_6 : decode cX11_lay 6 = .ok (.invokestatic 91, 3) := by decide +kernel
theorem dX11_lay_9 : decode cX11_lay 9 = .ok (.ifCond .eq 29, 3) := by decide +kernel
theorem dX11_lay_12 : decode cX11_lay 12 = .ok (.iload_n 2, 1) := by decide +kernel
theorem dX11_lay_13 : decode cX11_lay 13 = .ok (.i2l, 1) := by decide +kernel
theorem dX11_lay_14 : decode cX11_lay 14 = .ok (.lconst 0, 1) := by decide +kernel
theorem dX11_lay_15 : decode cX11_lay 15 = .ok (.ldc2_w 89, 3) := by decide +kernel
theorem dX11_lay_18 : decode cX11_lay 18 = .ok (.invokestatic 91, 3) := by decide +kernel
theorem dX11_lay_21 : decode cX11_lay 21 = .ok (.ifCond .eq 17, 3) := by decide +kernel
theorem dX11_lay_24 : decode cX11_lay 24 = .ok (.iload_n 3, 1) := by decide +kernel
theorem dX11_lay_25 : decode cX11_lay 25 = .ok (.i2l, 1) := by decide +kernel
theorem dX11_lay_26 : decode cX11_lay 26 = .ok (.lconst 0, 1) := by decide +kernel
theorem dX11_lay_27 : decode cX11_lay 27 = .ok (.aload_n 0, 1) := by decide +kernel
theorem dX11_lay_28 : decode cX11_lay 28 = .ok (.invokevirtual 218, 3) := by decide +kernel
theorem dX11_lay_31 : decode cX11_lay 31 = .ok (.i2l, 1) := by decide +kernel
theorem dX11_lay_32 : decode cX11_lay 32 = .ok (.invokestatic 91, 3) := by decide +kernel
theorem dX11_lay_35 : decode cX11_lay 35 = .ok (.ifCond .ne 7, 3) := by decide +kernel
theorem dX11_lay_38 : decode cX11_lay 38 = .ok (.sipush (-1001), 3) := by decide +kernel
theorem dX11_lay_41 : decode cX11_lay 41 = .ok (.ireturn, 1) := by decide +kernel
theorem dX11_lay_42 : decode cX11_lay 42 = .ok (.aload_n 0, 1) := by decide +kernel
theorem dX11_lay_43 : decode cX11_lay 43 = .ok (.invokevirtual 328, 3) := by decide +kernel
theorem dX11_lay_46 : decode cX11_lay 46 = .ok (.aload_n 0, 1) := by decide +kernel
theorem dX11_lay_47 : decode cX11_lay 47 = .ok (.getfield 7, 3) := by decide +kernel
theorem dX11_lay_50 : decode cX11_lay 50 = .ok (.sipush 201, 3) := by decide +kernel
theorem dX11_lay_53 : decode cX11_lay 53 = .ok (.iconst 3, 1) := by decide +kernel
theorem dX11_lay_54 : decode cX11_lay 54 = .ok (.iload_n 1, 1) := by decide +kernel
theorem dX11_lay_55 : decode cX11_lay 55 = .ok (.imul, 1) := by decide +kernel
theorem dX11_lay_56 : decode cX11_lay 56 = .ok (.iadd, 1) := by decide +kernel
theorem dX11_lay_57 : decode cX11_lay 57 = .ok (.iconst 1, 1) := by decide +kernel
theorem dX11_lay_58 : decode cX11_lay 58 = .ok (.iastore, 1) := by decide +kernel
theorem dX11_lay_59 : decode cX11_lay 59 = .ok (.aload_n 0, 1) := by decide +kernel
theorem dX11_lay_60 : decode cX11_lay 60 = .ok (.getfield 7, 3) := by decide +kernel
theorem dX11_lay_63 : decode cX11_lay 63 = .ok (.sipush 202, 3) := by decide +kernel
theorem dX11_lay_66 : decode cX11_lay 66 = .ok (.iconst 3, 1) := by decide +kernel
theorem dX11_lay_67 : decode cX11_lay 67 = .ok (.iload_n 1, 1) := by decide +kernel
theorem dX11_lay_68 : decode cX11_lay 68 = .ok (.imul, 1) := by decide +kernel
theorem dX11_lay_69 : decode cX11_lay 69 = .ok (.iadd, 1) := by decide +kernel
theorem dX11_lay_70 : decode cX11_lay 70 = .ok (.iload_n 2, 1) := by decide +kernel
theorem dX11_lay_71 : decode cX11_lay 71 = .ok (.iastore, 1) := by decide +kernel
theorem dX11_lay_72 : decode cX11_lay 72 = .ok (.aload_n 0, 1) := by decide +kernel
theorem dX11_lay_73 : decode cX11_lay 73 = .ok (.getfield 7, 3) := by decide +kernel
theorem dX11_lay_76 : decode cX11_lay 76 = .ok (.sipush 203, 3) := by decide +kernel
theorem dX11_lay_79 : decode cX11_lay 79 = .ok (.iconst 3, 1) := by decide +kernel
theorem dX11_lay_80 : decode cX11_lay 80 = .ok (.iload_n 1, 1) := by decide +kernel
theorem dX11_lay_81 : decode cX11_lay 81 = .ok (.imul, 1) := by decide +kernel
theorem dX11_lay_82 : decode cX11_lay 82 = .ok (.iadd, 1) := by decide +kernel
theorem dX11_lay_83 : decode cX11_lay 83 = .ok (.iload_n 3, 1) := by decide +kernel
theorem dX11_lay_84 : decode cX11_lay 84 = .ok (.iastore, 1) := by decide +kernel
theorem dX11_lay_85 : decode cX11_lay 85 = .ok (.aload_n 0, 1) := by decide +kernel
theorem dX11_lay_86 : decode cX11_lay 86 = .ok (.iconst 1, 1) := by decide +kernel
theorem dX11_lay_87 : decode cX11_lay 87 = .ok (.invokevirtual 334, 3) := by decide +kernel
theorem dX11_lay_90 : decode cX11_lay 90 = .ok (.ifCond .ne 7, 3) := by decide +kernel
theorem dX11_lay_93 : decode cX11_lay 93 = .ok (.sipush (-1005), 3) := by decide +kernel
theorem dX11_lay_96 : decode cX11_lay 96 = .ok (.ireturn, 1) := by decide +kernel
theorem dX11_lay_97 : decode cX11_lay 97 = .ok (.aload_n 0, 1) := by decide +kernel
theorem dX11_lay_98 : decode cX11_lay 98 = .ok (.iload_n 1, 1) := by decide +kernel
theorem dX11_lay_99 : decode cX11_lay 99 = .ok (.invokevirtual 295, 3) := by decide +kernel
theorem dX11_lay_102 : decode cX11_lay 102 = .ok (.aload_n 0, 1) := by decide +kernel
theorem dX11_lay_103 : decode cX11_lay 103 = .ok (.getfield 235, 3) := by decide +kernel
theorem dX11_lay_106 : decode cX11_lay 106 = .ok (.ireturn, 1) := by decide +kernel
theorem vc_X11_lay_0 {G : zG} {d : Nat} {Q : Option zV → zHp → Prop} (p1 : Int) (p2 : Int) (p3 : Int) (h : zHp) (hS : zSh h) (hd : 8 ≤ d)  
    (hv : (wpN G (d - 1) M_X11_in 0 (zar 0 [vL p1, vL 0, vL 3]) [] h (qI (fun z1 h2 => zSh h2 ∧ ((z1 = 0 → Q (some (vI (-1001))) h2) ∧ (z1 ≠ 0 → (wpN G (d - 1) M_X11_in 0 (zar 0 [vL p2, vL 0, vL 3]) [] h2 (qI (fun z6 h7 => zSh h7 ∧ ((z6 = 0 → Q (some (vI (-1001))) h7) ∧ (z6 ≠ 0 → (wpN G (d - 1) M_X11_size 0 (zar 0 [vR 343]) [] h7 (qI (fun z11 h12 => zSh h12 ∧ (wpN G (d - 1) M_X11_in 0 (zar 0 [vL p3, vL 0, vL z11]) [] h12 (qI (fun z15 h16 => zSh h16 ∧ ((z15 ≠ 0 → (wpN G (d - 1) M_X11_keeps 0 (zar 0 [vR 343]) [] h16 (qV (fun h21 => zSh h21 ∧ ((-2147483648 ≤ 3 * p1 ∧ 3 * p1 ≤ 2147483647) ∧ ((-2147483648 ≤ 201 + (3 * p1) ∧ 201 + (3 * p1) ≤ 2147483647) ∧ (((0 : Int) ≤ (201 + (3 * p1)) ∧ (201 + (3 * p1)) < ((213 : Nat) : Int)) ∧ (∀ h24 : zHp, h24 = sI h21 344 (201 + (3 * p1)).toNat 1 → ((-2147483648 ≤ 3 * p1 ∧ 3 * p1 ≤ 2147483647) ∧ ((-2147483648 ≤ 202 + (3 * p1) ∧ 202 + (3 * p1) ≤ 2147483647) ∧ (((0 : Int) ≤ (202 + (3 * p1)) ∧ (202 + (3 * p1)) < ((213 : Nat) : Int)) ∧ (∀ h26 : zHp, h26 = sI h24 344 (202 + (3 * p1)).toNat p2 → ((-2147483648 ≤ 3 * p1 ∧ 3 * p1 ≤ 2147483647) ∧ ((-2147483648 ≤ 203 + (3 * p1) ∧ 203 + (3 * p1) ≤ 2147483647) ∧ (((0 : Int) ≤ (203 + (3 * p1)) ∧ (203 + (3 * p1)) < ((213 : Nat) : Int)) ∧ (∀ h28 : zHp, h28 = sI h26 344 (203 + (3 * p1)).toNat p3 → (wpN G (d - 1) M_X11_stays 0 (zar 0 [vR 343, vI 1]) [] h28 (qI (fun z30 h31 => zSh h31 ∧ ((z30 ≠ 0 → (wpN G (d - 1) M_X11_laysOut 0 (zar 0 [vR 343, vI p1]) [] h31 (qV (fun h36 => zSh h36 ∧ Q (some (vI (gI h36 343 31))) h36)))) ∧ (z30 = 0 → Q (some (vI (-1005))) h31))))))))))))))))))))) ∧ (z15 = 0 → Q (some (vI (-1001))) h16))))))))))))))))))) : wpN G d M_X11_lay 0 [(0, vR 343), (1, vI p1), (2, vI p2), (3, vI p3)] [] h Q := by
  refine wq_iload_n 1 rfl rfl dX11_lay_0 ?_
  refine wq_i2l dX11_lay_1 ?_
  refine wq_lconst (z := 0) (zlitL rfl) rfl dX11_lay_2 ?_
  refine wq_ldc2_w (z := 3) (zlitL rfl) kc_X11_89 dX11_lay_3 ?_
  refine wN_S (As := [vL p1, vL 0, vL 3]) md_X11_in ms_X11_in lk_X11_91 rfl rfl (Nat.le_of_ble_eq_true rfl) (Nat.le_of_ble_eq_true rfl) (d' := d - 1) (by omega) dX11_lay_6 hv (fun v9 h2 q3 => ?_)
  obtain ⟨z1, rfl, hS4, q3⟩ := q3
  refine wq_st (st' := [vI z1]) rfl ?_
  refine wq_if_eq 38 rfl dX11_lay_9 (fun c5 => ?_) (fun c5 => ?_)
  · refine wq_sipush (z := -1001) (zlit rfl) rfl dX11_lay_38 ?_
    exact wp_iret rfl dX11_lay_41 (q3.1 c5)
  · refine wq_iload_n 2 rfl rfl dX11_lay_12 ?_
    refine wq_i2l dX11_lay_13 ?_
    refine wq_lconst (z := 0) (zlitL rfl) rfl dX11_lay_14 ?_
    refine wq_ldc2_w (z := 3) (zlitL rfl) kc_X11_89 dX11_lay_15 ?_
    refine wN_S (As := [vL p2, vL 0, vL 3]) md_X11_in ms_X11_in lk_X11_91 rfl rfl (Nat.le_of_ble_eq_true rfl) (Nat.le_of_ble_eq_true rfl) (d' := d - 1) (by omega) dX11_lay_18 (q3.2 c5) (fun v9 h7 q8 => ?_)
    obtain ⟨z6, rfl, hS9, q8⟩ := q8
    refine wq_st (st' := [vI z6]) rfl ?_
    refine wq_if_eq 38 rfl dX11_lay_21 (fun c10 => ?_) (fun c10 => ?_)
    · refine wq_sipush (z := -1001) (zlit rfl) rfl dX11_lay_38 ?_
      exact wp_iret rfl dX11_lay_41 (q8.1 c10)
    · refine wq_iload_n 3 rfl rfl dX11_lay_24 ?_
      refine wq_i2l dX11_lay_25 ?_
      refine wq_lconst (z := 0) (zlitL rfl) rfl dX11_lay_26 ?_
      refine wq_aload_n 0 rfl rfl dX11_lay_27 ?_
      refine wN_V (As := []) vm_X11_size lk_X11_218 tT_343 rfl rfl (Nat.le_of_ble_eq_true rfl) (Nat.le_of_ble_eq_true rfl) (d' := d - 1) (by omega) dX11_lay_28 (q8.2 c10) (fun v9 h12 q13 => ?_)
      obtain ⟨z11, rfl, hS14, q13⟩ := q13
      refine wq_st (st' := [vI z11, vL 0, vL p3]) rfl ?_
      refine wq_i2l dX11_lay_31 ?_
      refine wN_S (As := [vL p3, vL 0, vL z11]) md_X11_in ms_X11_in lk_X11_91 rfl rfl (Nat.le_of_ble_eq_true rfl) (Nat.le_of_ble_eq_true rfl) (d' := d - 1) (by omega) dX11_lay_32 q13 (fun v9 h16 q17 => ?_)
      obtain ⟨z15, rfl, hS18, q17⟩ := q17
      refine wq_st (st' := [vI z15]) rfl ?_
      refine wq_if_ne 42 rfl dX11_lay_35 (fun c19 => ?_) (fun c19 => ?_)
      · refine wq_aload_n 0 rfl rfl dX11_lay_42 ?_
        refine wN_V (As := []) vm_X11_keeps lk_X11_328 tT_343 rfl rfl (Nat.le_of_ble_eq_true rfl) (Nat.le_of_ble_eq_true rfl) (d' := d - 1) (by omega) dX11_lay_43 (q17.1 c19) (fun v9 h21 q22 => ?_)
        obtain ⟨rfl, hS23, q22⟩ := q22
        refine wq_st (st' := []) rfl ?_
        refine wq_aload_n 0 rfl rfl dX11_lay_46 ?_
        refine wq_getR fk_X11_7 tT_343 (fun _ _ _ => rfl) (sh_11_0 hS23) (by decide) dX11_lay_47 ?_
        refine wq_sipush (z := 201) (zlit rfl) rfl dX11_lay_50 ?_
        refine wq_iconst (z := 3) (zlit rfl) dX11_lay_53 ?_
        refine wq_iload_n 1 rfl rfl dX11_lay_54 ?_
        refine wq_imul q22.1 dX11_lay_55 ?_
        refine wq_iadd q22.2.1 dX11_lay_56 ?_
        refine wq_iconst (z := 1) (zlit rfl) dX11_lay_57 ?_
        refine wq_iast tT_344 q22.2.2.1.1 q22.2.2.1.2 dX11_lay_58 ?_
        refine wq_toph (fun h24 e25 => ?_)
        have sh24 : zSh h24 := zSh_of e25 hS23
        refine wq_aload_n 0 rfl rfl dX11_lay_59 ?_
        refine wq_getR fk_X11_7 tT_343 (fun _ _ _ => rfl) (sh_11_0 sh24) (by decide) dX11_lay_60 ?_
        refine wq_sipush (z := 202) (zlit rfl) rfl dX11_lay_63 ?_
        refine wq_iconst (z := 3) (zlit rfl) dX11_lay_66 ?_
        refine wq_iload_n 1 rfl rfl dX11_lay_67 ?_
        refine wq_imul (q22.2.2.2 h24 e25).1 dX11_lay_68 ?_
        refine wq_iadd (q22.2.2.2 h24 e25).2.1 dX11_lay_69 ?_
        refine wq_iload_n 2 rfl rfl dX11_lay_70 ?_
        refine wq_iast tT_344 (q22.2.2.2 h24 e25).2.2.1.1 (q22.2.2.2 h24 e25).2.2.1.2 dX11_lay_71 ?_
        refine wq_toph (fun h26 e27 => ?_)
        have sh26 : zSh h26 := zSh_of e27 sh24
        refine wq_aload_n 0 rfl rfl dX11_lay_72 ?_
        refine wq_getR fk_X11_7 tT_343 (fun _ _ _ => rfl) (sh_11_0 sh26) (by decide) dX11_lay_73 ?_
        refine wq_sipush (z := 203) (zlit rfl) rfl dX11_lay_76 ?_
        refine wq_iconst (z := 3) (zlit rfl) dX11_lay_79 ?_
        refine wq_iload_n 1 rfl rfl dX11_lay_80 ?_
        refine wq_imul ((q22.2.2.2 h24 e25).2.2.2 h26 e27).1 dX11_lay_81 ?_
        refine wq_iadd ((q22.2.2.2 h24 e25).2.2.2 h26 e27).2.1 dX11_lay_82 ?_
        refine wq_iload_n 3 rfl rfl dX11_lay_83 ?_
        refine wq_iast tT_344 ((q22.2.2.2 h24 e25).2.2.2 h26 e27).2.2.1.1 ((q22.2.2.2 h24 e25).2.2.2 h26 e27).2.2.1.2 dX11_lay_84 ?_
        refine wq_toph (fun h28 e29 => ?_)
        have sh28 : zSh h28 := zSh_of e29 sh26
        refine wq_aload_n 0 rfl rfl dX11_lay_85 ?_
        refine wq_iconst (z := 1) (zlit rfl) dX11_lay_86 ?_
        refine wN_V (As := [vI 1]) vm_X11_stays lk_X11_334 tT_343 rfl rfl (Nat.le_of_ble_eq_true rfl) (Nat.le_of_ble_eq_true rfl) (d' := d - 1) (by omega) dX11_lay_87 (((q22.2.2.2 h24 e25).2.2.2 h26 e27).2.2.2 h28 e29) (fun v9 h31 q32 => ?_)
        obtain ⟨z30, rfl, hS33, q32⟩ := q32
        refine wq_st (st' := [vI z30]) rfl ?_
        refine wq_if_ne 97 rfl dX11_lay_90 (fun c34 => ?_) (fun c34 => ?_)
        · refine wq_aload_n 0 rfl rfl dX11_lay_97 ?_
          refine wq_iload_n 1 rfl rfl dX11_lay_98 ?_
          refine wN_V (As := [vI p1]) vm_X11_laysOut lk_X11_295 tT_343 rfl rfl (Nat.le_of_ble_eq_true rfl) (Nat.le_of_ble_eq_true rfl) (d' := d - 1) (by omega) dX11_lay_99 (q32.1 c34) (fun v9 h36 q37 => ?_)
          obtain ⟨rfl, hS38, q37⟩ := q37
          refine wq_st (st' := []) rfl ?_
          refine wq_aload_n 0 rfl rfl dX11_lay_102 ?_
          refine wq_getI fk_X11_235 tT_343 (fun _ _ _ => rfl) dX11_lay_103 ?_
          exact wp_iret rfl dX11_lay_106 q37
        · refine wq_sipush (z := -1005) (zlit rfl) rfl dX11_lay_93 ?_
          exact wp_iret rfl dX11_lay_96 (q32.2 c34)
      · refine wq_sipush (z := -1001) (zlit rfl) rfl dX11_lay_38 ?_
        exact wp_iret rfl dX11_lay_41 (q17.2 c19)
