theorem dX0_has_0 : decode cX0_has 0 = .ok (.iload_n 1, 1) := by decide +kernel
theorem dX0_has_1 : decode cX0_has 1 = .ok (.ifCond .lt 15, 3) := by decide +kernel
theorem dX0_has_4 : decode cX0_has 4 = .ok (.iload_n 1, 1) := by decide +kernel
theorem dX0_has_5 : decode cX0_has 5 = .ok (.aload_n 0, 1) := by decide +kernel
theorem dX0_has_6 : decode cX0_has 6 = .ok (.getfield 21, 3) := by decide +kernel
theorem dX0_has_9 : decode cX0_has 9 = .ok (.if_icmp .ge 7, 3) := by decide +kernel
theorem dX0_has_12 : decode cX0_has 12 = .ok (.iconst 1, 1) := by decide +kernel
theorem dX0_has_13 : decode cX0_has 13 = .ok (.goto 4, 3) := by decide +kernel
theorem dX0_has_16 : decode cX0_has 16 = .ok (.iconst 0, 1) := by decide +kernel
theorem dX0_has_17 : decode cX0_has 17 = .ok (.ireturn, 1) := by decide +kernel
theorem vc_X0_has_0 {G : zG} {d : Nat} {Q : Option zV → zHp → Prop} (a : Nat) (hT_a : zT 369 a = (100, 2)) (p1 : Int) (h : zHp) (hS : zSh h) (hd : 0 ≤ d)  
    (hv : ((p1 < 0 → Q (some (vI 0)) h) ∧ (0 ≤ p1 → (((gI h a 1) ≤ p1 → Q (some (vI 0)) h) ∧ (p1 < (gI h a 1) → Q (some (vI 1)) h))))) : wpN G d M_X0_has 0 [(0, vR a), (1, vI p1)] [] h Q := by
  refine wq_iload_n 1 rfl rfl dX0_has_0 ?_
  refine wq_if_lt 16 rfl dX0_has_1 (fun c1 => ?_) (fun c1 => ?_)
  · refine wq_iconst (z := 0) (zlit rfl) dX0_has_16 ?_
    exact wp_zret (Or.inl rfl) rfl dX0_has_17 (hv.1 c1)
  · refine wq_iload_n 1 rfl rfl dX0_has_4 ?_
    refine wq_aload_n 0 rfl rfl dX0_has_5 ?_
    refine wq_getI fk_X0_21 hT_a (fun _ _ _ => rfl) dX0_has_6 ?_
    refine wq_icmp_ge 16 rfl dX0_has_9 (fun c2 => ?_) (fun c2 => ?_)
    · refine wq_iconst (z := 0) (zlit rfl) dX0_has_16 ?_
      exact wp_zret (Or.inl rfl) rfl dX0_has_17 ((hv.2 c1).1 c2)
    · refine wq_iconst (z := 1) (zlit rfl) dX0_has_12 ?_
      refine wq_goto 17 rfl dX0_has_13 ?_
      exact wp_zret (Or.inr rfl) rfl dX0_has_17 ((hv.2 c1).2 c2)
theorem dX0_get_0 : decode cX0_get 0 = .ok (.iload_n 1, 1) := by decide +kernel
theorem dX0_get_1 : decode cX0_get 1 = .ok (.ifCond .lt 20, 3) := by decide +kernel
theorem dX0_get_4 : decode cX0_get 4 = .ok (.iload_n 1, 1) := by decide +kernel
theorem dX0_get_5 : decode cX0_get 5 = .ok (.aload_n 0, 1) := by decide +kernel
theorem dX0_get_6 : decode cX0_get 6 = .ok (.getfield 21, 3) := by decide +kernel
theorem dX0_get_9 : decode cX0_get 9 = .ok (.if_icmp .ge 12, 3) := by decide +kernel
theorem dX0_get_12 : decode cX0_get 12 = .ok (.aload_n 0, 1) := by decide +kernel
theorem dX0_get_13 : decode cX0_get 13 = .ok (.getfield 15, 3) := by decide +kernel
theorem dX0_get_16 : decode cX0_get 16 = .ok (.iload_n 1, 1) := by decide +kernel
theorem dX0_get_17 : decode cX0_get 17 = .ok (.iaload, 1) := by decide +kernel
theorem dX0_get_18 : decode cX0_get 18 = .ok (.goto 4, 3) := by decide +kernel
theorem dX0_get_21 : decode cX0_get 21 = .ok (.iconst (-1), 1) := by decide +kernel
theorem dX0_get_22 : decode cX0_get 22 = .ok (.ireturn, 1) := by decide +kernel
theorem vc_X0_get_0 {G : zG} {d : Nat} {Q : Option zV → zHp → Prop} (a : Nat) (hT_a : zT 369 a = (100, 2)) (p1 : Int) (h : zHp) (hS : zSh h) (hd : 0 ≤ d)  
    (hv : ((p1 < 0 → Q (some (vI (-1))) h) ∧ (0 ≤ p1 → (((gI h a 1) ≤ p1 → Q (some (vI (-1))) h) ∧ (p1 < (gI h a 1) → (((0 : Int) ≤ p1 ∧ p1 < (((zlen (a + 1)) : Nat) : Int)) ∧ Q (some (vI (gI h (a + 1) p1.toNat))) h)))))) : wpN G d M_X0_get 0 [(0, vR a), (1, vI p1)] [] h Q := by
  refine wq_iload_n 1 rfl rfl dX0_get_0 ?_
  refine wq_if_lt 21 rfl dX0_get_1 (fun c1 => ?_) (fun c1 => ?_)
  · refine wq_iconst (z := -1) (zlit rfl) dX0_get_21 ?_
    exact wp_iret rfl dX0_get_22 (hv.1 c1)
  · refine wq_iload_n 1 rfl rfl dX0_get_4 ?_
    refine wq_aload_n 0 rfl rfl dX0_get_5 ?_
    refine wq_getI fk_X0_21 hT_a (fun _ _ _ => rfl) dX0_get_6 ?_
    refine wq_icmp_ge 21 rfl dX0_get_9 (fun c2 => ?_) (fun c2 => ?_)
    · refine wq_iconst (z := -1) (zlit rfl) dX0_get_21 ?_
      exact wp_iret rfl dX0_get_22 ((hv.2 c1).1 c2)
    · refine wq_aload_n 0 rfl rfl dX0_get_12 ?_
      refine wq_getR (r := (a + 1)) fk_X0_15 hT_a (fun _ _ _ => rfl) (sh_0_0 hS hT_a) (by omega) dX0_get_13 ?_
      refine wq_iload_n 1 rfl rfl dX0_get_16 ?_
      refine wq_iald (zrow1 hT_a) ((hv.2 c1).2 c2).1.1 ((hv.2 c1).2 c2).1.2 dX0_get_17 ?_
      refine wq_goto 22 rfl dX0_get_18 ?_
      exact wp_iret rfl dX0_get_22 ((hv.2 c1).2 c2).2
theorem dX0_put_0 : decode cX0_put 0 = .ok (.iload_n 1, 1) := by decide +kernel
theorem dX0_put_1 : decode cX0_put 1 = .ok (.ifCond .lt 18, 3) := by decide +kernel
theorem dX0_put_4 : decode cX0_put 4 = .ok (.iload_n 1, 1) := by decide +kernel
theorem dX0_put_5 : decode cX0_put 5 = .ok (.aload_n 0, 1) := by decide +kernel
theorem dX0_put_6 : decode cX0_put 6 = .ok (.getfield 21, 3) := by decide +kernel
theorem dX0_put_9 : decode cX0_put 9 = .ok (.if_icmp .ge 10, 3) := by decide +kernel
theorem dX0_put_12 : decode cX0_put 12 = .ok (.aload_n 0, 1) := by decide +kernel
theorem dX0_put_13 : decode cX0_put 13 = .ok (.getfield 15, 3) := by decide +kernel
theorem dX0_put_16 : decode cX0_put 16 = .ok (.iload_n 1, 1) := by decide +kernel
theorem dX0_put_17 : decode cX0_put 17 = .ok (.iload_n 2, 1) := by decide +kernel
theorem dX0_put_18 : decode cX0_put 18 = .ok (.iastore, 1) := by decide +kernel
theorem dX0_put_19 : decode cX0_put 19 = .ok (.return_, 1) := by decide +kernel
theorem vc_X0_put_0 {G : zG} {d : Nat} {Q : Option zV → zHp → Prop} (a : Nat) (hT_a : zT 369 a = (100, 2)) (p1 : Int) (p2 : Int) (h : zHp) (hS : zSh h) (hd : 0 ≤ d)  
    (hv : ((p1 < 0 → Q none h) ∧ (0 ≤ p1 → (((gI h a 1) ≤ p1 → Q none h) ∧ (p1 < (gI h a 1) → (((0 : Int) ≤ p1 ∧ p1 < (((zlen (a + 1)) : Nat) : Int)) ∧ (∀ h3 : zHp, h3 = sI h (a + 1) p1.toNat p2 → Q none h3))))))) : wpN G d M_X0_put 0 [(0, vR a), (1, vI p1), (2, vI p2)] [] h Q := by
  refine wq_iload_n 1 rfl rfl dX0_put_0 ?_
  refine wq_if_lt 19 rfl dX0_put_1 (fun c1 => ?_) (fun c1 => ?_)
  · exact wp_vret rfl dX0_put_19 (hv.1 c1)
  · refine wq_iload_n 1 rfl rfl dX0_put_4 ?_
    refine wq_aload_n 0 rfl rfl dX0_put_5 ?_
    refine wq_getI fk_X0_21 hT_a (fun _ _ _ => rfl) dX0_put_6 ?_
    refine wq_icmp_ge 19 rfl dX0_put_9 (fun c2 => ?_) (fun c2 => ?_)
    · exact wp_vret rfl dX0_put_19 ((hv.2 c1).1 c2)
    · refine wq_aload_n 0 rfl rfl dX0_put_12 ?_
      refine wq_getR (r := (a + 1)) fk_X0_15 hT_a (fun _ _ _ => rfl) (sh_0_0 hS hT_a) (by omega) dX0_put_13 ?_
      refine wq_iload_n 1 rfl rfl dX0_put_16 ?_
      refine wq_iload_n 2 rfl rfl dX0_put_17 ?_
      refine wq_iast (zrow1 hT_a) ((hv.2 c1).2 c2).1.1 ((hv.2 c1).2 c2).1.2 dX0_put_18 ?_
      refine wq_toph (fun h3 e4 => ?_)
      have sh3 : zSh h3 := zSh_of e4 hS
      exact wp_vret rfl dX0_put_19 (((hv.2 c1).2 c2).2 h3 e4)
theorem dX0_putAll_0 : decode cX0_putAll 0 = .ok (.iconst 0, 1) := by decide +kernel
theorem dX0_putAll_1 : decode cX0_putAll 1 = .ok (.istore_n 3, 1) := by decide +kernel
theorem dX0_putAll_2 : decode cX0_putAll 2 = .ok (.iload_n 3, 1) := by decide +kernel
theorem dX0_putAll_3 : decode cX0_putAll 3 = .ok (.aload_n 2, 1) := by decide +kernel
theorem dX0_putAll_4 : decode cX0_putAll 4 = .ok (.getfield 21, 3) := by decide +kernel
theorem dX0_putAll_7 : decode cX0_putAll 7 = .ok (.if_icmp .ge 21, 3) := by decide +kernel
theorem dX0_putAll_10 : decode cX0_putAll 10 = .ok (.aload_n 0, 1) := by decide +kernel
theorem dX0_putAll_11 : decode cX0_putAll 11 = .ok (.iload_n 1, 1) := by decide +kernel
theorem dX0_putAll_12 : decode cX0_putAll 12 = .ok (.iload_n 3, 1) := by decide +kernel
theorem dX0_putAll_13 : decode cX0_putAll 13 = .ok (.iadd, 1) := by decide +kernel
theorem dX0_putAll_14 : decode cX0_putAll 14 = .ok (.aload_n 2, 1) := by decide +kernel
theorem dX0_putAll_15 : decode cX0_putAll 15 = .ok (.iload_n 3, 1) := by decide +kernel
theorem dX0_putAll_16 : decode cX0_putAll 16 = .ok (.invokevirtual 25, 3) := by decide +kernel
theorem dX0_putAll_19 : decode cX0_putAll 19 = .ok (.invokevirtual 29, 3) := by decide +kernel
theorem dX0_putAll_22 : decode cX0_putAll 22 = .ok (.iinc 3 1, 3) := by decide +kernel
theorem dX0_putAll_25 : decode cX0_putAll 25 = .ok (.goto (-23), 3) := by decide +kernel
theorem dX0_putAll_28 : decode cX0_putAll 28 = .ok (.return_, 1) := by decide +kernel
theorem vc_X0_putAll_0 {G : zG} {d : Nat} {Q : Option zV → zHp → Prop} (a : Nat) (hT_a : zT 369 a = (100, 2)) (p1 : Int) (p2 : Nat) (hT_p2 : zT 369 p2 = (100, 2)) (h : zHp) (hS : zSh h) (hd : 1 ≤ d) (I_2 : Nat → Int → Nat → Int → zHp → Prop) (hI_2 : ∀ (y0 : Nat) (y1 : Int) (y2 : Nat) (y3 : Int) (h' : zHp), I_2 y0 y1 y2 y3 h' → wpN G d M_X0_putAll 2 [(0, vR y0), (1, vI y1), (2, vR y2), (3, vI y3)] [] h' Q) 
    (hv : (zSh h → I_2 a p1 p2 0 h)) : wpN G d M_X0_putAll 0 [(0, vR a), (1, vI p1), (2, vR p2)] [] h Q := by
  refine wq_iconst (z := 0) (zlit rfl) dX0_putAll_0 ?_
  refine wq_istore_n (ls' := [(0, vR a), (1, vI p1), (2, vR p2), (3, vI 0)]) rfl (by decide) rfl dX0_putAll_1 ?_
  exact wq_pick [0, 1, 2, 3] rfl (hI_2 a p1 p2 0 h (hv hS))
theorem vc_X0_putAll_2 {G : zG} {d : Nat} {Q : Option zV → zHp → Prop} (y0 : Nat) (hT_y0 : zT 369 y0 = (100, 2)) (y1 : Int) (y2 : Nat) (hT_y2 : zT 369 y2 = (100, 2)) (y3 : Int) (h : zHp) (hS : zSh h) (hd : 1 ≤ d) (I_2 : Nat → Int → Nat → Int → zHp → Prop) (hI_2 : ∀ (y0 : Nat) (y1 : Int) (y2 : Nat) (y3 : Int) (h' : zHp), I_2 y0 y1 y2 y3 h' → wpN G d M_X0_putAll 2 [(0, vR y0), (1, vI y1), (2, vR y2), (3, vI y3)] [] h' Q) 
    (hv : (((gI h y2 1) ≤ y3 → Q none h) ∧ (y3 < (gI h y2 1) → ((-2147483648 ≤ y1 + y3 ∧ y1 + y3 ≤ 2147483647) ∧ (wpN G (d - 1) M_X0_get 0 (zar 0 [vR y2, vI y3]) [] h (qI (fun z2 h3 => zSh h3 ∧ (wpN G (d - 1) M_X0_put 0 (zar 0 [vR y0, vI (y1 + y3), vI z2]) [] h3 (qV (fun h7 => zSh h7 ∧ ((-2147483648 ≤ y3 + 1 ∧ y3 + 1 ≤ 2147483647) ∧ ∀ x10 : Int, x10 = y3 + 1 → (zSh h7 → I_2 y0 y1 y2 x10 h7)))))))))))) : wpN G d M_X0_putAll 2 [(0, vR y0), (1, vI y1), (2, vR y2), (3, vI y3)] [] h Q := by
  refine wq_iload_n 3 rfl rfl dX0_putAll_2 ?_
  refine wq_aload_n 2 rfl rfl dX0_putAll_3 ?_
  refine wq_getI fk_X0_21 hT_y2 (fun _ _ _ => rfl) dX0_putAll_4 ?_
  refine wq_icmp_ge 28 rfl dX0_putAll_7 (fun c1 => ?_) (fun c1 => ?_)
  · exact wp_vret rfl dX0_putAll_28 (hv.1 c1)
  · refine wq_aload_n 0 rfl rfl dX0_putAll_10 ?_
    refine wq_iload_n 1 rfl rfl dX0_putAll_11 ?_
    refine wq_iload_n 3 rfl rfl dX0_putAll_12 ?_
    refine wq_iadd (hv.2 c1).1 dX0_putAll_13 ?_
    refine wq_aload_n 2 rfl rfl dX0_putAll_14 ?_
    refine wq_iload_n 3 rfl rfl dX0_putAll_15 ?_
    refine wN_V (As := [vI y3]) vm_X0_get lk_X0_25 hT_y2 rfl rfl (Nat.le_of_ble_eq_true rfl) (Nat.le_of_ble_eq_true rfl) (d' := d - 1) (by omega) dX0_putAll_16 (hv.2 c1).2 (fun v9 h3 q4 => ?_)
    obtain ⟨z2, rfl, hS5, q4⟩ := q4
    refine wq_st (st' := [vI z2, vI (y1 + y3), vR y0]) rfl ?_
    refine wN_V (As := [vI (y1 + y3), vI z2]) vm_X0_put lk_X0_29 hT_y0 rfl rfl (Nat.le_of_ble_eq_true rfl) (Nat.le_of_ble_eq_true rfl) (d' := d - 1) (by omega) dX0_putAll_19 q4 (fun v9 h7 q8 => ?_)
    obtain ⟨rfl, hS9, q8⟩ := q8
    refine wq_st (st' := []) rfl ?_
    refine z_nm (y3 + 1) (fun x10 e11 => ?_)
    refine wq_iinc (y := x10) (ls' := [(0, vR y0), (1, vI y1), (2, vR y2), (3, vI x10)]) 3 rfl e11.symm (by rw [e11]; exact q8.1) (by decide) rfl dX0_putAll_22 ?_
    refine wq_goto 2 rfl dX0_putAll_25 ?_
    exact wq_pick [0, 1, 2, 3] rfl (hI_2 y0 y1 y2 x10 h7 ((q8.2 x10 e11) hS9))
theorem dX0_append_0 : decode cX0_append 0 = .ok (.aload_n 0, 1) := by decide +kernel
theorem dX0_append_1 : decode cX0_append 1 = .ok (.getfield 21, 3) := by decide +kernel
theorem dX0_append_4 : decode cX0_append 4 = .ok (.aload_n 0, 1) := by decide +kernel
theorem dX0_append_5 : decode cX0_append 5 = .ok (.getfield 15, 3) := by decide +kernel
theorem dX0_append_8 : decode cX0_append 8 = .ok (.arraylength, 1) := by decide +kernel
theorem dX0_append_9 : decode cX0_append 9 = .ok (.if_icmp .lt 5, 3) := by decide +kernel
theorem dX0_append_12 : decode cX0_append 12 = .ok (.iconst 0, 1) := by decide +kernel
theorem dX0_append_13 : decode cX0_append 13 = .ok (.ireturn, 1) := by decide +kernel
theorem dX0_append_14 : decode cX0_append 14 = .ok (.aload_n 0, 1) := by decide +kernel
theorem dX0_append_15 : decode cX0_append 15 = .ok (.getfield 15, 3) := by decide +kernel
theorem dX0_append_18 : decode cX0_append 18 = .ok (.aload_n 0, 1) := by decide +kernel
theorem dX0_append_19 : decode cX0_append 19 = .ok (.getfield 21, 3) := by decide +kernel
theorem dX0_append_22 : decode cX0_append 22 = .ok (.iload_n 1, 1) := by decide +kernel
theorem dX0_append_23 : decode cX0_append 23 = .ok (.iastore, 1) := by decide +kernel
theorem dX0_append_24 : decode cX0_append 24 = .ok (.aload_n 0, 1) := by decide +kernel
theorem dX0_append_25 : decode cX0_append 25 = .ok (.dup, 1) := by decide +kernel
theorem dX0_append_26 : decode cX0_append 26 = .ok (.getfield 21, 3) := by decide +kernel
theorem dX0_append_29 : decode cX0_append 29 = .ok (.iconst 1, 1) := by decide +kernel
theorem dX0_append_30 : decode cX0_append 30 = .ok (.iadd, 1) := by decide +kernel
theorem dX0_append_31 : decode cX0_append 31 = .ok (.putfield 21, 3) := by decide +kernel
theorem dX0_append_34 : decode cX0_append 34 = .ok (.iconst 1, 1) := by decide +kernel
theorem dX0_append_35 : decode cX0_append 35 = .ok (.ireturn, 1) := by decide +kernel
theorem vc_X0_append_0 {G : zG} {d : Nat} {Q : Option zV → zHp → Prop} (a : Nat) (hT_a : zT 369 a = (100, 2)) (p1 : Int) (h : zHp) (hS : zSh h) (hd : 0 ≤ d)  
    (hv : (((gI h a 1) < (((zlen (a + 1)) : Nat) : Int) → (((0 : Int) ≤ (gI h a 1) ∧ (gI h a 1) < (((zlen (a + 1)) : Nat) : Int)) ∧ (∀ h2 : zHp, h2 = sI h (a + 1) (gI h a 1).toNat p1 → ((-2147483648 ≤ (gI h2 a 1) + 1 ∧ (gI h2 a 1) + 1 ≤ 2147483647) ∧ (∀ h4 : zHp, h4 = sI h2 a 1 ((gI h2 a 1) + 1) → Q (some (vI 1)) h4))))) ∧ ((((zlen (a + 1)) : Nat) : Int) ≤ (gI h a 1) → Q (some (vI 0)) h))) : wpN G d M_X0_append 0 [(0, vR a), (1, vI p1)] [] h Q := by
  refine wq_aload_n 0 rfl rfl dX0_append_0 ?_
  refine wq_getI fk_X0_21 hT_a (fun _ _ _ => rfl) dX0_append_1 ?_
  refine wq_aload_n 0 rfl rfl dX0_append_4 ?_
  refine wq_getR (r := (a + 1)) fk_X0_15 hT_a (fun _ _ _ => rfl) (sh_0_0 hS hT_a) (by omega) dX0_append_5 ?_
  refine wq_alen (zrow1 hT_a) (by decide) (zlen_le _) dX0_append_8 ?_
  refine wq_icmp_lt 14 rfl dX0_append_9 (fun c1 => ?_) (fun c1 => ?_)
  · refine wq_aload_n 0 rfl rfl dX0_append_14 ?_
    refine wq_getR (r := (a + 1)) fk_X0_15 hT_a (fun _ _ _ => rfl) (sh_0_0 hS hT_a) (by omega) dX0_append_15 ?_
    refine wq_aload_n 0 rfl rfl dX0_append_18 ?_
    refine wq_getI fk_X0_21 hT_a (fun _ _ _ => rfl) dX0_append_19 ?_
    refine wq_iload_n 1 rfl rfl dX0_append_22 ?_
    refine wq_iast (zrow1 hT_a) (hv.1 c1).1.1 (hv.1 c1).1.2 dX0_append_23 ?_
    refine wq_toph (fun h2 e3 => ?_)
    have sh2 : zSh h2 := zSh_of e3 hS
    refine wq_aload_n 0 rfl rfl dX0_append_24 ?_
    refine wq_dup rfl dX0_append_25 ?_
    refine wq_getI fk_X0_21 hT_a (fun _ _ _ => rfl) dX0_append_26 ?_
    refine wq_iconst (z := 1) (zlit rfl) dX0_append_29 ?_
    refine wq_iadd ((hv.1 c1).2 h2 e3).1 dX0_append_30 ?_
    refine wq_putI fk_X0_21 hT_a rfl rfl dX0_append_31 ?_
    refine wq_toph (fun h4 e5 => ?_)
    have sh4 : zSh h4 := zSh_of e5 sh2
    refine wq_iconst (z := 1) (zlit rfl) dX0_append_34 ?_
    exact wp_zret (Or.inr rfl) rfl dX0_append_35 (((hv.1 c1).2 h2 e3).2 h4 e5)
  · refine wq_iconst (z := 0) (zlit rfl) dX0_append_12 ?_
    exact wp_zret (Or.inl rfl) rfl dX0_append_13 (hv.2 c1)
theorem dX0_become_0 : decode cX0_become 0 = .ok (.iload_n 2, 1) := by decide +kernel
theorem dX0_become_1 : decode cX0_become 1 = .ok (.ifCond .lt 26, 3) := by decide +kernel
theorem dX0_become_4 : decode cX0_become 4 = .ok (.iload_n 3, 1) := by decide +kernel
theorem dX0_become_5 : decode cX0_become 5 = .ok (.ifCond .lt 22, 3) := by decide +kernel
theorem dX0_become_8 : decode cX0_become 8 = .ok (.iload_n 3, 1) := by decide +kernel
theorem dX0_become_9 : decode cX0_become 9 = .ok (.aload_n 1, 1) := by decide +kernel
theorem dX0_become_10 : decode cX0_become 10 = .ok (.getfield 21, 3) := by decide +kernel
theorem dX0_become_13 : decode cX0_become 13 = .ok (.iload_n 2, 1) := by decide +kernel
theorem dX0_become_14 : decode cX0_become 14 = .ok (.isub, 1) := by decide +kernel
theorem dX0_become_15 : decode cX0_become 15 = .ok (.if_icmp .gt 12, 3) := by decide +kernel
theorem dX0_become_18 : decode cX0_become 18 = .ok (.iload_n 3, 1) := by decide +kernel
theorem dX0_become_19 : decode cX0_become 19 = .ok (.aload_n 0, 1) := by decide +kernel
theorem dX0_become_20 : decode cX0_become 20 = .ok (.getfield 15, 3) := by decide +kernel
theorem dX0_become_23 : decode cX0_become 23 = .ok (.arraylength, 1) := by decide +kernel
theorem dX0_become_24 : decode cX0_become 24 = .ok (.if_icmp .le 4, 3) := by decide +kernel
theorem dX0_become_27 : decode cX0_become 27 = .ok (.return_, 1) := by decide +kernel
theorem dX0_become_28 : decode cX0_become 28 = .ok (.aload_n 1, 1) := by decide +kernel
theorem dX0_become_29 : decode cX0_become 29 = .ok (.getfield 15, 3) := by decide +kernel
theorem dX0_become_32 : decode cX0_become 32 = .ok (.iload_n 2, 1) := by decide +kernel
theorem dX0_become_33 : decode cX0_become 33 = .ok (.aload_n 0, 1) := by decide +kernel
theorem dX0_become_34 : decode cX0_become 34 = .ok (.getfield 15, 3) := by decide +kernel
theorem dX0_become_37 : decode cX0_become 37 = .ok (.iconst 0, 1) := by decide +kernel
theorem dX0_become_38 : decode cX0_become 38 = .ok (.iload_n 3, 1) := by decide +kernel
theorem dX0_become_39 : decode cX0_become 39 = .ok (.invokestatic 33, 3) := by decide +kernel
theorem dX0_become_42 : decode cX0_become 42 = .ok (.aload_n 0, 1) := by decide +kernel
theorem dX0_become_43 : decode cX0_become 43 = .ok (.iload_n 3, 1) := by decide +kernel
theorem dX0_become_44 : decode cX0_become 44 = .ok (.putfield 21, 3) := by decide +kernel
theorem dX0_become_47 : decode cX0_become 47 = .ok (.return_, 1) := by decide +kernel
theorem vc_X0_become_0 {G : zG} {d : Nat} {Q : Option zV → zHp → Prop} (a : Nat) (hT_a : zT 369 a = (100, 2)) (p1 : Nat) (hT_p1 : zT 369 p1 = (100, 2)) (p2 : Int) (p3 : Int) (h : zHp) (hS : zSh h) (hd : 1 ≤ d)  
    (hv : ((p2 < 0 → Q none h) ∧ (0 ≤ p2 → ((p3 < 0 → Q none h) ∧ (0 ≤ p3 → ((-2147483648 ≤ (gI h p1 1) - p2 ∧ (gI h p1 1) - p2 ≤ 2147483647) ∧ ((((gI h p1 1) - p2) < p3 → Q none h) ∧ (p3 ≤ ((gI h p1 1) - p2) → ((p3 ≤ (((zlen (a + 1)) : Nat) : Int) → (((0 : Int) ≤ p2 ∧ (0 : Int) ≤ 0 ∧ (0 : Int) ≤ p3 ∧ p2 + p3 ≤ (((zlen (p1 + 1)) : Nat) : Int) ∧ 0 + p3 ≤ (((zlen (a + 1)) : Nat) : Int)) ∧ ∀ h5 : zHp, h5 = cpI h (p1 + 1) p2.toNat (a + 1) 0 p3.toNat → (∀ h7 : zHp, h7 = sI h5 a 1 p3 → Q none h7))) ∧ ((((zlen (a + 1)) : Nat) : Int) < p3 → Q none h)))))))))) : wpN G d M_X0_become 0 [(0, vR a), (1, vR p1), (2, vI p2), (3, vI p3)] [] h Q := by
  refine wq_iload_n 2 rfl rfl dX0_become_0 ?_
  refine wq_if_lt 27 rfl dX0_become_1 (fun c1 => ?_) (fun c1 => ?_)
  · exact wp_vret rfl dX0_become_27 (hv.1 c1)
  · refine wq_iload_n 3 rfl rfl dX0_become_4 ?_
    refine wq_if_lt 27 rfl dX0_become_5 (fun c2 => ?_) (fun c2 => ?_)
    · exact wp_vret rfl dX0_become_27 ((hv.2 c1).1 c2)
    · refine wq_iload_n 3 rfl rfl dX0_become_8 ?_
      refine wq_aload_n 1 rfl rfl dX0_become_9 ?_
      refine wq_getI fk_X0_21 hT_p1 (fun _ _ _ => rfl) dX0_become_10 ?_
      refine wq_iload_n 2 rfl rfl dX0_become_13 ?_
      refine wq_isub ((hv.2 c1).2 c2).1 dX0_become_14 ?_
      refine wq_icmp_gt 27 rfl dX0_become_15 (fun c3 => ?_) (fun c3 => ?_)
      · exact wp_vret rfl dX0_become_27 (((hv.2 c1).2 c2).2.1 c3)
      · refine wq_iload_n 3 rfl rfl dX0_become_18 ?_
        refine wq_aload_n 0 rfl rfl dX0_become_19 ?_
        refine wq_getR (r := (a + 1)) fk_X0_15 hT_a (fun _ _ _ => rfl) (sh_0_0 hS hT_a) (by omega) dX0_become_20 ?_
        refine wq_alen (zrow1 hT_a) (by decide) (zlen_le _) dX0_become_23 ?_
        refine wq_icmp_le 28 rfl dX0_become_24 (fun c4 => ?_) (fun c4 => ?_)
        · refine wq_aload_n 1 rfl rfl dX0_become_28 ?_
          refine wq_getR (r := (p1 + 1)) fk_X0_15 hT_p1 (fun _ _ _ => rfl) (sh_0_0 hS hT_p1) (by omega) dX0_become_29 ?_
          refine wq_iload_n 2 rfl rfl dX0_become_32 ?_
          refine wq_aload_n 0 rfl rfl dX0_become_33 ?_
          refine wq_getR (r := (a + 1)) fk_X0_15 hT_a (fun _ _ _ => rfl) (sh_0_0 hS hT_a) (by omega) dX0_become_34 ?_
          refine wq_iconst (z := 0) (zlit rfl) dX0_become_37 ?_
          refine wq_iload_n 3 rfl rfl dX0_become_38 ?_
          refine wq_copyI lk_X0_33 ac_n ac_s ac_i (zrow1 hT_p1) (zrow1 hT_a) ((((hv.2 c1).2 c2).2.2 c3).1 c4).1.1 ((((hv.2 c1).2 c2).2.2 c3).1 c4).1.2.1 ((((hv.2 c1).2 c2).2.2 c3).1 c4).1.2.2.1 ((((hv.2 c1).2 c2).2.2 c3).1 c4).1.2.2.2.1 ((((hv.2 c1).2 c2).2.2 c3).1 c4).1.2.2.2.2 (zrm_f (by omega)) (zrm_l (by omega)) (Nat.le_of_ble_eq_true rfl) dX0_become_39 ?_
          refine wq_toph (fun h5 e6 => ?_)
          have sh5 : zSh h5 := zSh_of e6 hS
          refine wq_aload_n 0 rfl rfl dX0_become_42 ?_
          refine wq_iload_n 3 rfl rfl dX0_become_43 ?_
          refine wq_putI fk_X0_21 hT_a rfl rfl dX0_become_44 ?_
          refine wq_toph (fun h7 e8 => ?_)
          have sh7 : zSh h7 := zSh_of e8 sh5
          exact wp_vret rfl dX0_become_47 ((((((hv.2 c1).2 c2).2.2 c3).1 c4).2 h5 e6) h7 e8)
        · exact wp_vret rfl dX0_become_27 ((((hv.2 c1).2 c2).2.2 c3).2 c4)
theorem dX0_openGap_0 : decode cX0_openGap 0 = .ok (.iload_n 1, 1) := by decide +kernel
theorem dX0_openGap_1 : decode cX0_openGap 1 = .ok (.ifCond .lt 29, 3) := by decide +kernel
theorem dX0_openGap_4 : decode cX0_openGap 4 = .ok (.iload_n 1, 1) := by decide +kernel
theorem dX0_openGap_5 : decode cX0_openGap 5 = .ok (.aload_n 0, 1) := by decide +kernel
theorem dX0_openGap_6 : decode cX0_openGap 6 = .ok (.getfield 21, 3) := by decide +kernel
theorem dX0_openGap_9 : decode cX0_openGap 9 = .ok (.if_icmp .gt 21, 3) := by decide +kernel
theorem dX0_openGap_12 : decode cX0_openGap 12 = .ok (.iload_n 2, 1) := by decide +kernel
theorem dX0_openGap_13 : decode cX0_openGap 13 = .ok (.ifCond .lt 17, 3) := by decide +kernel
theorem dX0_openGap_16 : decode cX0_openGap 16 = .ok (.iload_n 2, 1) := by decide +kernel
theorem dX0_openGap_17 : decode cX0_openGap 17 = .ok (.aload_n 0, 1) := by decide +kernel
theorem dX0_openGap_18 : decode cX0_openGap 18 = .ok (.getfield 15, 3) := by decide +kernel
theorem dX0_openGap_21 : decode cX0_openGap 21 = .ok (.arraylength, 1) := by decide +kernel
theorem dX0_openGap_22 : decode cX0_openGap 22 = .ok (.aload_n 0, 1) := by decide +kernel
theorem dX0_openGap_23 : decode cX0_openGap 23 = .ok (.getfield 21, 3) := by decide +kernel
theorem dX0_openGap_26 : decode cX0_openGap 26 = .ok (.isub, 1) := by decide +kernel
theorem dX0_openGap_27 : decode cX0_openGap 27 = .ok (.if_icmp .le 4, 3) := by decide +kernel
theorem dX0_openGap_30 : decode cX0_openGap 30 = .ok (.return_, 1) := by decide +kernel
theorem dX0_openGap_31 : decode cX0_openGap 31 = .ok (.aload_n 0, 1) := by decide +kernel
theorem dX0_openGap_32 : decode cX0_openGap 32 = .ok (.getfield 15, 3) := by decide +kernel
theorem dX0_openGap_35 : decode cX0_openGap 35 = .ok (.iload_n 1, 1) := by decide +kernel
theorem dX0_openGap_36 : decode cX0_openGap 36 = .ok (.aload_n 0, 1) := by decide +kernel
theorem dX0_openGap_37 : decode cX0_openGap 37 = .ok (.getfield 15, 3) := by decide +kernel
theorem dX0_openGap_40 : decode cX0_openGap 40 = .ok (.iload_n 1, 1) := by decide +kernel
theorem dX0_openGap_41 : decode cX0_openGap 41 = .ok (.iload_n 2, 1) := by decide +kernel
theorem dX0_openGap_42 : decode cX0_openGap 42 = .ok (.iadd, 1) := by decide +kernel
theorem dX0_openGap_43 : decode cX0_openGap 43 = .ok (.aload_n 0, 1) := by decide +kernel
theorem dX0_openGap_44 : decode cX0_openGap 44 = .ok (.getfield 21, 3) := by decide +kernel
theorem dX0_openGap_47 : decode cX0_openGap 47 = .ok (.iload_n 1, 1) := by decide +kernel
theorem dX0_openGap_48 : decode cX0_openGap 48 = .ok (.isub, 1) := by decide +kernel
theorem dX0_openGap_49 : decode cX0_openGap 49 = .ok (.invokestatic 33, 3) := by decide +kernel
theorem dX0_openGap_52 : decode cX0_openGap 52 = .ok (.aload_n 0, 1) := by decide +kernel
theorem dX0_openGap_53 : decode cX0_openGap 53 = .ok (.dup, 1) := by decide +kernel
theorem dX0_openGap_54 : decode cX0_openGap 54 = .ok (.getfield 21, 3) := by decide +kernel
theorem dX0_openGap_57 : decode cX0_openGap 57 = .ok (.iload_n 2, 1) := by decide +kernel
theorem dX0_openGap_58 : decode cX0_openGap 58 = .ok (.iadd, 1) := by decide +kernel
theorem dX0_openGap_59 : decode cX0_openGap 59 = .ok (.putfield 21, 3) := by decide +kernel
theorem dX0_openGap_62 : decode cX0_openGap 62 = .ok (.return_, 1) := by decide +kernel
theorem vc_X0_openGap_0 {G : zG} {d : Nat} {Q : Option zV → zHp → Prop} (a : Nat) (hT_a : zT 369 a = (100, 2)) (p1 : Int) (p2 : Int) (h : zHp) (hS : zSh h) (hd : 1 ≤ d)  
    (hv : ((p1 < 0 → Q none h) ∧ (0 ≤ p1 → (((gI h a 1) < p1 → Q none h) ∧ (p1 ≤ (gI h a 1) → ((p2 < 0 → Q none h) ∧ (0 ≤ p2 → ((-2147483648 ≤ (((zlen (a + 1)) : Nat) : Int) - (gI h a 1) ∧ (((zlen (a + 1)) : Nat) : Int) - (gI h a 1) ≤ 2147483647) ∧ ((p2 ≤ ((((zlen (a + 1)) : Nat) : Int) - (gI h a 1)) → ((-2147483648 ≤ p1 + p2 ∧ p1 + p2 ≤ 2147483647) ∧ ((-2147483648 ≤ (gI h a 1) - p1 ∧ (gI h a 1) - p1 ≤ 2147483647) ∧ (((0 : Int) ≤ p1 ∧ (0 : Int) ≤ (p1 + p2) ∧ (0 : Int) ≤ ((gI h a 1) - p1) ∧ p1 + ((gI h a 1) - p1) ≤ (((zlen (a + 1)) : Nat) : Int) ∧ (p1 + p2) + ((gI h a 1) - p1) ≤ (((zlen (a + 1)) : Nat) : Int)) ∧ ∀ h5 : zHp, h5 = cpI h (a + 1) p1.toNat (a + 1) (p1 + p2).toNat ((gI h a 1) - p1).toNat → ((-2147483648 ≤ (gI h5 a 1) + p2 ∧ (gI h5 a 1) + p2 ≤ 2147483647) ∧ (∀ h7 : zHp, h7 = sI h5 a 1 ((gI h5 a 1) + p2) → Q none h7)))))) ∧ (((((zlen (a + 1)) : Nat) : Int) - (gI h a 1)) < p2 → Q none h)))))))))) : wpN G d M_X0_openGap 0 [(0, vR a), (1, vI p1), (2, vI p2)] [] h Q := by
  refine wq_iload_n 1 rfl rfl dX0_openGap_0 ?_
  refine wq_if_lt 30 rfl dX0_openGap_1 (fun c1 => ?_) (fun c1 => ?_)
  · exact wp_vret rfl dX0_openGap_30 (hv.1 c1)
  · refine wq_iload_n 1 rfl rfl dX0_openGap_4 ?_
    refine wq_aload_n 0 rfl rfl dX0_openGap_5 ?_
    refine wq_getI fk_X0_21 hT_a (fun _ _ _ => rfl) dX0_openGap_6 ?_
    refine wq_icmp_gt 30 rfl dX0_openGap_9 (fun c2 => ?_) (fun c2 => ?_)
    · exact wp_vret rfl dX0_openGap_30 ((hv.2 c1).1 c2)
    · refine wq_iload_n 2 rfl rfl dX0_openGap_12 ?_
      refine wq_if_lt 30 rfl dX0_openGap_13 (fun c3 => ?_) (fun c3 => ?_)
      · exact wp_vret rfl dX0_openGap_30 (((hv.2 c1).2 c2).1 c3)
      · refine wq_iload_n 2 rfl rfl dX0_openGap_16 ?_
        refine wq_aload_n 0 rfl rfl dX0_openGap_17 ?_
        refine wq_getR (r := (a + 1)) fk_X0_15 hT_a (fun _ _ _ => rfl) (sh_0_0 hS hT_a) (by omega) dX0_openGap_18 ?_
        refine wq_alen (zrow1 hT_a) (by decide) (zlen_le _) dX0_openGap_21 ?_
        refine wq_aload_n 0 rfl rfl dX0_openGap_22 ?_
        refine wq_getI fk_X0_21 hT_a (fun _ _ _ => rfl) dX0_openGap_23 ?_
        refine wq_isub (((hv.2 c1).2 c2).2 c3).1 dX0_openGap_26 ?_
        refine wq_icmp_le 31 rfl dX0_openGap_27 (fun c4 => ?_) (fun c4 => ?_)
        · refine wq_aload_n 0 rfl rfl dX0_openGap_31 ?_
          refine wq_getR (r := (a + 1)) fk_X0_15 hT_a (fun _ _ _ => rfl) (sh_0_0 hS hT_a) (by omega) dX0_openGap_32 ?_
          refine wq_iload_n 1 rfl rfl dX0_openGap_35 ?_
          refine wq_aload_n 0 rfl rfl dX0_openGap_36 ?_
          refine wq_getR (r := (a + 1)) fk_X0_15 hT_a (fun _ _ _ => rfl) (sh_0_0 hS hT_a) (by omega) dX0_openGap_37 ?_
          refine wq_iload_n 1 rfl rfl dX0_openGap_40 ?_
          refine wq_iload_n 2 rfl rfl dX0_openGap_41 ?_
          refine wq_iadd ((((hv.2 c1).2 c2).2 c3).2.1 c4).1 dX0_openGap_42 ?_
          refine wq_aload_n 0 rfl rfl dX0_openGap_43 ?_
          refine wq_getI fk_X0_21 hT_a (fun _ _ _ => rfl) dX0_openGap_44 ?_
          refine wq_iload_n 1 rfl rfl dX0_openGap_47 ?_
          refine wq_isub ((((hv.2 c1).2 c2).2 c3).2.1 c4).2.1 dX0_openGap_48 ?_
          refine wq_copyI lk_X0_33 ac_n ac_s ac_i (zrow1 hT_a) (zrow1 hT_a) ((((hv.2 c1).2 c2).2 c3).2.1 c4).2.2.1.1 ((((hv.2 c1).2 c2).2 c3).2.1 c4).2.2.1.2.1 ((((hv.2 c1).2 c2).2 c3).2.1 c4).2.2.1.2.2.1 ((((hv.2 c1).2 c2).2 c3).2.1 c4).2.2.1.2.2.2.1 ((((hv.2 c1).2 c2).2 c3).2.1 c4).2.2.1.2.2.2.2 (zrm_f (by omega)) (zrm_l (by omega)) (Nat.le_of_ble_eq_true rfl) dX0_openGap_49 ?_
          refine wq_toph (fun h5 e6 => ?_)
          have sh5 : zSh h5 := zSh_of e6 hS
          refine wq_aload_n 0 rfl rfl dX0_openGap_52 ?_
          refine wq_dup rfl dX0_openGap_53 ?_
          refine wq_getI fk_X0_21 hT_a (fun _ _ _ => rfl) dX0_openGap_54 ?_
          refine wq_iload_n 2 rfl rfl dX0_openGap_57 ?_
          refine wq_iadd (((((hv.2 c1).2 c2).2 c3).2.1 c4).2.2.2 h5 e6).1 dX0_openGap_58 ?_
          refine wq_putI fk_X0_21 hT_a rfl rfl dX0_openGap_59 ?_
          refine wq_toph (fun h7 e8 => ?_)
          have sh7 : zSh h7 := zSh_of e8 sh5
          exact wp_vret rfl dX0_openGap_62 ((((((hv.2 c1).2 c2).2 c3).2.1 c4).2.2.2 h5 e6).2 h7 e8)
        · exact wp_vret rfl dX0_openGap_30 ((((hv.2 c1).2 c2).2 c3).2.2 c4)
theorem dX0_closeGap_0 : decode cX0_closeGap 0 = .ok (.iload_n 1, 1) := by decide +kernel
theorem dX0_closeGap_1 : decode cX0_closeGap 1 = .ok (.ifCond .lt 25, 3) := by decide +kernel
theorem dX0_closeGap_4 : decode cX0_closeGap 4 = .ok (.iload_n 1, 1) := by decide +kernel
theorem dX0_closeGap_5 : decode cX0_closeGap 5 = .ok (.aload_n 0, 1) := by decide +kernel
theorem dX0_closeGap_6 : decode cX0_closeGap 6 = .ok (.getfield 21, 3) := by decide +kernel
theorem dX0_closeGap_9 : decode cX0_closeGap 9 = .ok (.if_icmp .gt 17, 3) := by decide +kernel
theorem dX0_closeGap_12 : decode cX0_closeGap 12 = .ok (.iload_n 2, 1) := by decide +kernel
theorem dX0_closeGap_13 : decode cX0_closeGap 13 = .ok (.ifCond .lt 13, 3) := by decide +kernel
theorem dX0_closeGap_16 : decode cX0_closeGap 16 = .ok (.iload_n 2, 1) := by decide +kernel
theorem dX0_closeGap_17 : decode cX0_closeGap 17 = .ok (.aload_n 0, 1) := by decide +kernel
theorem dX0_closeGap_18 : decode cX0_closeGap 18 = .ok (.getfield 21, 3) := by decide +kernel
theorem dX0_closeGap_21 : decode cX0_closeGap 21 = .ok (.iload_n 1, 1) := by decide +kernel
theorem dX0_closeGap_22 : decode cX0_closeGap 22 = .ok (.isub, 1) := by decide +kernel
theorem dX0_closeGap_23 : decode cX0_closeGap 23 = .ok (.if_icmp .le 4, 3) := by decide +kernel
theorem dX0_closeGap_26 : decode cX0_closeGap 26 = .ok (.return_, 1) := by decide +kernel
theorem dX0_closeGap_27 : decode cX0_closeGap 27 = .ok (.aload_n 0, 1) := by decide +kernel
theorem dX0_closeGap_28 : decode cX0_closeGap 28 = .ok (.getfield 15, 3) := by decide +kernel
theorem dX0_closeGap_31 : decode cX0_closeGap 31 = .ok (.iload_n 1, 1) := by decide +kernel
theorem dX0_closeGap_32 : decode cX0_closeGap 32 = .ok (.iload_n 2, 1) := by decide +kernel
theorem dX0_closeGap_33 : decode cX0_closeGap 33 = .ok (.iadd, 1) := by decide +kernel
theorem dX0_closeGap_34 : decode cX0_closeGap 34 = .ok (.aload_n 0, 1) := by decide +kernel
theorem dX0_closeGap_35 : decode cX0_closeGap 35 = .ok (.getfield 15, 3) := by decide +kernel
theorem dX0_closeGap_38 : decode cX0_closeGap 38 = .ok (.iload_n 1, 1) := by decide +kernel
theorem dX0_closeGap_39 : decode cX0_closeGap 39 = .ok (.aload_n 0, 1) := by decide +kernel
theorem dX0_closeGap_40 : decode cX0_closeGap 40 = .ok (.getfield 21, 3) := by decide +kernel
theorem dX0_closeGap_43 : decode cX0_closeGap 43 = .ok (.iload_n 1, 1) := by decide +kernel
theorem dX0_closeGap_44 : decode cX0_closeGap 44 = .ok (.isub, 1) := by decide +kernel
theorem dX0_closeGap_45 : decode cX0_closeGap 45 = .ok (.iload_n 2, 1) := by decide +kernel
theorem dX0_closeGap_46 : decode cX0_closeGap 46 = .ok (.isub, 1) := by decide +kernel
theorem dX0_closeGap_47 : decode cX0_closeGap 47 = .ok (.invokestatic 33, 3) := by decide +kernel
theorem dX0_closeGap_50 : decode cX0_closeGap 50 = .ok (.aload_n 0, 1) := by decide +kernel
theorem dX0_closeGap_51 : decode cX0_closeGap 51 = .ok (.dup, 1) := by decide +kernel
theorem dX0_closeGap_52 : decode cX0_closeGap 52 = .ok (.getfield 21, 3) := by decide +kernel
theorem dX0_closeGap_55 : decode cX0_closeGap 55 = .ok (.iload_n 2, 1) := by decide +kernel
theorem dX0_closeGap_56 : decode cX0_closeGap 56 = .ok (.isub, 1) := by decide +kernel
theorem dX0_closeGap_57 : decode cX0_closeGap 57 = .ok (.putfield 21, 3) := by decide +kernel
theorem dX0_closeGap_60 : decode cX0_closeGap 60 = .ok (.return_, 1) := by decide +kernel
theorem vc_X0_closeGap_0 {G : zG} {d : Nat} {Q : Option zV → zHp → Prop} (a : Nat) (hT_a : zT 369 a = (100, 2)) (p1 : Int) (p2 : Int) (h : zHp) (hS : zSh h) (hd : 1 ≤ d)  
    (hv : ((p1 < 0 → Q none h) ∧ (0 ≤ p1 → (((gI h a 1) < p1 → Q none h) ∧ (p1 ≤ (gI h a 1) → ((p2 < 0 → Q none h) ∧ (0 ≤ p2 → ((-2147483648 ≤ (gI h a 1) - p1 ∧ (gI h a 1) - p1 ≤ 2147483647) ∧ ((p2 ≤ ((gI h a 1) - p1) → ((-2147483648 ≤ p1 + p2 ∧ p1 + p2 ≤ 2147483647) ∧ ((-2147483648 ≤ (gI h a 1) - p1 ∧ (gI h a 1) - p1 ≤ 2147483647) ∧ ((-2147483648 ≤ ((gI h a 1) - p1) - p2 ∧ ((gI h a 1) - p1) - p2 ≤ 2147483647) ∧ (((0 : Int) ≤ (p1 + p2) ∧ (0 : Int) ≤ p1 ∧ (0 : Int) ≤ (((gI h a 1) - p1) - p2) ∧ (p1 + p2) + (((gI h a 1) - p1) - p2) ≤ (((zlen (a + 1)) : Nat) : Int) ∧ p1 + (((gI h a 1) - p1) - p2) ≤ (((zlen (a + 1)) : Nat) : Int)) ∧ ∀ h5 : zHp, h5 = cpI h (a + 1) (p1 + p2).toNat (a + 1) p1.toNat (((gI h a 1) - p1) - p2).toNat → ((-2147483648 ≤ (gI h5 a 1) - p2 ∧ (gI h5 a 1) - p2 ≤ 2147483647) ∧ (∀ h7 : zHp, h7 = sI h5 a 1 ((gI h5 a 1) - p2) → Q none h7))))))) ∧ (((gI h a 1) - p1) < p2 → Q none h)))))))))) : wpN G d M_X0_closeGap 0 [(0, vR a), (1, vI p1), (2, vI p2)] [] h Q := by
  refine wq_iload_n 1 rfl rfl dX0_closeGap_0 ?_
  refine wq_if_lt 26 rfl dX0_closeGap_1 (fun c1 => ?_) (fun c1 => ?_)
  · exact wp_vret rfl dX0_closeGap_26 (hv.1 c1)
  · refine wq_iload_n 1 rfl rfl dX0_closeGap_4 ?_
    refine wq_aload_n 0 rfl rfl dX0_closeGap_5 ?_
    refine wq_getI fk_X0_21 hT_a (fun _ _ _ => rfl) dX0_closeGap_6 ?_
    refine wq_icmp_gt 26 rfl dX0_closeGap_9 (fun c2 => ?_) (fun c2 => ?_)
    · exact wp_vret rfl dX0_closeGap_26 ((hv.2 c1).1 c2)
    · refine wq_iload_n 2 rfl rfl dX0_closeGap_12 ?_
      refine wq_if_lt 26 rfl dX0_closeGap_13 (fun c3 => ?_) (fun c3 => ?_)
      · exact wp_vret rfl dX0_closeGap_26 (((hv.2 c1).2 c2).1 c3)
      · refine wq_iload_n 2 rfl rfl dX0_closeGap_16 ?_
        refine wq_aload_n 0 rfl rfl dX0_closeGap_17 ?_
        refine wq_getI fk_X0_21 hT_a (fun _ _ _ => rfl) dX0_closeGap_18 ?_
        refine wq_iload_n 1 rfl rfl dX0_closeGap_21 ?_
        refine wq_isub (((hv.2 c1).2 c2).2 c3).1 dX0_closeGap_22 ?_
        refine wq_icmp_le 27 rfl dX0_closeGap_23 (fun c4 => ?_) (fun c4 => ?_)
        · refine wq_aload_n 0 rfl rfl dX0_closeGap_27 ?_
          refine wq_getR (r := (a + 1)) fk_X0_15 hT_a (fun _ _ _ => rfl) (sh_0_0 hS hT_a) (by omega) dX0_closeGap_28 ?_
          refine wq_iload_n 1 rfl rfl dX0_closeGap_31 ?_
          refine wq_iload_n 2 rfl rfl dX0_closeGap_32 ?_
          refine wq_iadd ((((hv.2 c1).2 c2).2 c3).2.1 c4).1 dX0_closeGap_33 ?_
          refine wq_aload_n 0 rfl rfl dX0_closeGap_34 ?_
          refine wq_getR (r := (a + 1)) fk_X0_15 hT_a (fun _ _ _ => rfl) (sh_0_0 hS hT_a) (by omega) dX0_closeGap_35 ?_
          refine wq_iload_n 1 rfl rfl dX0_closeGap_38 ?_
          refine wq_aload_n 0 rfl rfl dX0_closeGap_39 ?_
          refine wq_getI fk_X0_21 hT_a (fun _ _ _ => rfl) dX0_closeGap_40 ?_
          refine wq_iload_n 1 rfl rfl dX0_closeGap_43 ?_
          refine wq_isub ((((hv.2 c1).2 c2).2 c3).2.1 c4).2.1 dX0_closeGap_44 ?_
          refine wq_iload_n 2 rfl rfl dX0_closeGap_45 ?_
          refine wq_isub ((((hv.2 c1).2 c2).2 c3).2.1 c4).2.2.1 dX0_closeGap_46 ?_
          refine wq_copyI lk_X0_33 ac_n ac_s ac_i (zrow1 hT_a) (zrow1 hT_a) ((((hv.2 c1).2 c2).2 c3).2.1 c4).2.2.2.1.1 ((((hv.2 c1).2 c2).2 c3).2.1 c4).2.2.2.1.2.1 ((((hv.2 c1).2 c2).2 c3).2.1 c4).2.2.2.1.2.2.1 ((((hv.2 c1).2 c2).2 c3).2.1 c4).2.2.2.1.2.2.2.1 ((((hv.2 c1).2 c2).2 c3).2.1 c4).2.2.2.1.2.2.2.2 (zrm_f (by omega)) (zrm_l (by omega)) (Nat.le_of_ble_eq_true rfl) dX0_closeGap_47 ?_
          refine wq_toph (fun h5 e6 => ?_)
          have sh5 : zSh h5 := zSh_of e6 hS
          refine wq_aload_n 0 rfl rfl dX0_closeGap_50 ?_
          refine wq_dup rfl dX0_closeGap_51 ?_
          refine wq_getI fk_X0_21 hT_a (fun _ _ _ => rfl) dX0_closeGap_52 ?_
          refine wq_iload_n 2 rfl rfl dX0_closeGap_55 ?_
          refine wq_isub (((((hv.2 c1).2 c2).2 c3).2.1 c4).2.2.2.2 h5 e6).1 dX0_closeGap_56 ?_
          refine wq_putI fk_X0_21 hT_a rfl rfl dX0_closeGap_57 ?_
          refine wq_toph (fun h7 e8 => ?_)
          have sh7 : zSh h7 := zSh_of e8 sh5
          exact wp_vret rfl dX0_closeGap_60 ((((((hv.2 c1).2 c2).2 c3).2.1 c4).2.2.2.2 h5 e6).2 h7 e8)
        · exact wp_vret rfl dX0_closeGap_26 ((((hv.2 c1).2 c2).2 c3).2.2 c4)
theorem dX0_read_0 : decode cX0_read 0 = .ok (.aload_n 1, 1) := by decide +kernel
theorem dX0_read_1 : decode cX0_read 1 = .ok (.getfield 39, 3) := by decide +kernel
theorem dX0_read_4 : decode cX0_read 4 = .ok (.ifCond .lt 19, 3) := by decide +kernel
theorem dX0_read_7 : decode cX0_read 7 = .ok (.aload_n 1, 1) := by decide +kernel
theorem dX0_read_8 : decode cX0_read 8 = .ok (.getfield 44, 3) := by decide +kernel
theorem dX0_read_11 : decode cX0_read 11 = .ok (.aload_n 0, 1) := by decide +kernel
theorem dX0_read_12 : decode cX0_read 12 = .ok (.getfield 21, 3) := by decide +kernel
theorem dX0_read_15 : decode cX0_read 15 = .ok (.aload_n 1, 1) := by decide +kernel
theorem dX0_read_16 : decode cX0_read 16 = .ok (.getfield 39, 3) := by decide +kernel
theorem dX0_read_19 : decode cX0_read 19 = .ok (.isub, 1) := by decide +kernel
theorem dX0_read_20 : decode cX0_read 20 = .ok (.if_icmp .le 5, 3) := by decide +kernel
theorem dX0_read_23 : decode cX0_read 23 = .ok (.lconst 0, 1) := by decide +kernel
theorem dX0_read_24 : decode cX0_read 24 = .ok (.lreturn, 1) := by decide +kernel
theorem dX0_read_25 : decode cX0_read 25 = .ok (.lconst 0, 1) := by decide +kernel
theorem dX0_read_26 : decode cX0_read 26 = .ok (.lstore_n 2, 1) := by decide +kernel
theorem dX0_read_27 : decode cX0_read 27 = .ok (.iconst 0, 1) := by decide +kernel
theorem dX0_read_28 : decode cX0_read 28 = .ok (.istore 4, 2) := by decide +kernel
theorem dX0_read_30 : decode cX0_read 30 = .ok (.iload 4, 2) := by decide +kernel
theorem dX0_read_32 : decode cX0_read 32 = .ok (.aload_n 1, 1) := by decide +kernel
theorem dX0_read_33 : decode cX0_read 33 = .ok (.getfield 44, 3) := by decide +kernel
theorem dX0_read_36 : decode cX0_read 36 = .ok (.if_icmp .ge 52, 3) := by decide +kernel
theorem dX0_read_39 : decode cX0_read 39 = .ok (.aload_n 1, 1) := by decide +kernel
theorem dX0_read_40 : decode cX0_read 40 = .ok (.getfield 45, 3) := by decide +kernel
theorem dX0_read_43 : decode cX0_read 43 = .ok (.ifCond .eq 15, 3) := by decide +kernel
theorem dX0_read_46 : decode cX0_read 46 = .ok (.aload_n 1, 1) := by decide +kernel
theorem dX0_read_47 : decode cX0_read 47 = .ok (.getfield 44, 3) := by decide +kernel
theorem dX0_read_50 : decode cX0_read 50 = .ok (.iconst 1, 1) := by decide +kernel
theorem dX0_read_51 : decode cX0_read 51 = .ok (.isub, 1) := by decide +kernel
theorem dX0_read_52 : decode cX0_read 52 = .ok (.iload 4, 2) := by decide +kernel
theorem dX0_read_54 : decode cX0_read 54 = .ok (.isub, 1) := by decide +kernel
theorem dX0_read_55 : decode cX0_read 55 = .ok (.goto 5, 3) := by decide +kernel
theorem dX0_read_58 : decode cX0_read 58 = .ok (.iload 4, 2) := by decide +kernel
theorem dX0_read_60 : decode cX0_read 60 = .ok (.istore 5, 2) := by decide +kernel
theorem dX0_read_62 : decode cX0_read 62 = .ok (.ldc2_w 49, 3) := by decide +kernel
theorem dX0_read_65 : decode cX0_read 65 = .ok (.lload_n 2, 1) := by decide +kernel
theorem dX0_read_66 : decode cX0_read 66 = .ok (.lmul, 1) := by decide +kernel
theorem dX0_read_67 : decode cX0_read 67 = .ok (.aload_n 0, 1) := by decide +kernel
theorem dX0_read_68 : decode cX0_read 68 = .ok (.getfield 15, 3) := by decide +kernel
theorem dX0_read_71 : decode cX0_read 71 = .ok (.aload_n 1, 1) := by decide +kernel
theorem dX0_read_72 : decode cX0_read 72 = .ok (.getfield 39, 3) := by decide +kernel
theorem dX0_read_75 : decode cX0_read 75 = .ok (.iload 5, 2) := by decide +kernel
theorem dX0_read_77 : decode cX0_read 77 = .ok (.iadd, 1) := by decide +kernel
theorem dX0_read_78 : decode cX0_read 78 = .ok (.iaload, 1) := by decide +kernel
theorem dX0_read_79 : decode cX0_read 79 = .ok (.i2l, 1) := by decide +kernel
theorem dX0_read_80 : decode cX0_read 80 = .ok (.ladd, 1) := by decide +kernel
theorem dX0_read_81 : decode cX0_read 81 = .ok (.lstore_n 2, 1) := by decide +kernel
theorem dX0_read_82 : decode cX0_read 82 = .ok (.iinc 4 1, 3) := by decide +kernel
theorem dX0_read_85 : decode cX0_read 85 = .ok (.goto (-55), 3) := by decide +kernel
theorem dX0_read_88 : decode cX0_read 88 = .ok (.lconst 1, 1) := by decide +kernel
theorem dX0_read_89 : decode cX0_read 89 = .ok (.bipush 8, 2) := by decide +kernel
theorem dX0_read_91 : decode cX0_read 91 = .ok (.aload_n 1, 1) := by decide +kernel
theorem dX0_read_92 : decode cX0_read 92 = .ok (.getfield 44, 3) := by decide +kernel
theorem dX0_read_95 : decode cX0_read 95 = .ok (.imul, 1) := by decide +kernel
theorem dX0_read_96 : decode cX0_read 96 = .ok (.lshl, 1) := by decide +kernel
theorem dX0_read_97 : decode cX0_read 97 = .ok (.lstore 4, 2) := by decide +kernel
theorem dX0_read_99 : decode cX0_read 99 = .ok (.aload_n 1, 1) := by decide +kernel
theorem dX0_read_100 : decode cX0_read 100 = .ok (.getfield 51, 3) := by decide +kernel
theorem dX0_read_103 : decode cX0_read 103 = .ok (.iconst 1, 1) := by decide +kernel
theorem dX0_read_104 : decode cX0_read 104 = .ok (.if_icmp .ne 21, 3) := by decide +kernel
theorem dX0_read_107 : decode cX0_read 107 = .ok (.lload_n 2, 1) := by decide +kernel
theorem dX0_read_108 : decode cX0_read 108 = .ok (.lload 4, 2) := by decide +kernel
theorem dX0_read_110 : decode cX0_read 110 = .ok (.ldc2_w 56, 3) := by decide +kernel
theorem dX0_read_113 : decode cX0_read 113 = .ok (.ldiv, 1) := by decide +kernel
theorem dX0_read_114 : decode cX0_read 114 = .ok (.lcmp, 1) := by decide +kernel
theorem dX0_read_115 : decode cX0_read 115 = .ok (.ifCond .lt 10, 3) := by decide +kernel
theorem dX0_read_118 : decode cX0_read 118 = .ok (.lload_n 2, 1) := by decide +kernel
theorem dX0_read_119 : decode cX0_read 119 = .ok (.lload 4, 2) := by decide +kernel
theorem dX0_read_121 : decode cX0_read 121 = .ok (.lsub, 1) := by decide +kernel
theorem dX0_read_122 : decode cX0_read 122 = .ok (.goto 4, 3) := by decide +kernel
theorem dX0_read_125 : decode cX0_read 125 = .ok (.lload_n 2, 1) := by decide +kernel
theorem dX0_read_126 : decode cX0_read 126 = .ok (.lreturn, 1) := by decide +kernel
theorem vc_X0_read_0 {G : zG} {d : Nat} {Q : Option zV → zHp → Prop} (a : Nat) (hT_a : zT 369 a = (100, 2)) (p1 : Nat) (hT_p1 : zT 369 p1 = (103, 8)) (h : zHp) (hS : zSh h) (hd : 0 ≤ d) (I_30 : Nat → Nat → Int → Int → zHp → Prop) (hI_30 : ∀ (y0 : Nat) (y1 : Nat) (y2 : Int) (y4 : Int) (h' : zHp), I_30 y0 y1 y2 y4 h' → wpN G d M_X0_read 30 [(0, vR y0), (1, vR y1), (2, vL y2), (4, vI y4)] [] h' Q) 
    (hv : (((gI h p1 0) < 0 → Q (some (vL 0)) h) ∧ (0 ≤ (gI h p1 0) → ((-2147483648 ≤ (gI h a 1) - (gI h p1 0) ∧ (gI h a 1) - (gI h p1 0) ≤ 2147483647) ∧ (((gI h p1 1) ≤ ((gI h a 1) - (gI h p1 0)) → (zSh h → I_30 a p1 0 0 h)) ∧ (((gI h a 1) - (gI h p1 0)) < (gI h p1 1) → Q (some (vL 0)) h)))))) : wpN G d M_X0_read 0 [(0, vR a), (1, vR p1)] [] h Q := by
  refine wq_aload_n 1 rfl rfl dX0_read_0 ?_
  refine wq_getI fk_X0_39 hT_p1 (fun _ _ _ => rfl) dX0_read_1 ?_
  refine wq_if_lt 23 rfl dX0_read_4 (fun c1 => ?_) (fun c1 => ?_)
  · refine wq_lconst (z := 0) (zlitL rfl) rfl dX0_read_23 ?_
    exact wp_lret rfl dX0_read_24 (hv.1 c1)
  · refine wq_aload_n 1 rfl rfl dX0_read_7 ?_
    refine wq_getI fk_X0_44 hT_p1 (fun _ _ _ => rfl) dX0_read_8 ?_
    refine wq_aload_n 0 rfl rfl dX0_read_11 ?_
    refine wq_getI fk_X0_21 hT_a (fun _ _ _ => rfl) dX0_read_12 ?_
    refine wq_aload_n 1 rfl rfl dX0_read_15 ?_
    refine wq_getI fk_X0_39 hT_p1 (fun _ _ _ => rfl) dX0_read_16 ?_
    refine wq_isub (hv.2 c1).1 dX0_read_19 ?_
    refine wq_icmp_le 25 rfl dX0_read_20 (fun c2 => ?_) (fun c2 => ?_)
    · refine wq_lconst (z := 0) (zlitL rfl) rfl dX0_read_25 ?_
      refine wq_lstore_n (ls' := [(0, vR a), (1, vR p1), (2, vL 0)]) rfl (by decide) rfl dX0_read_26 ?_
      refine wq_iconst (z := 0) (zlit rfl) dX0_read_27 ?_
      refine wq_istore (ls' := [(0, vR a), (1, vR p1), (2, vL 0), (4, vI 0)]) (by decide) rfl dX0_read_28 ?_
      exact wq_pick [0, 1, 2, 3] rfl (hI_30 a p1 0 0 h (((hv.2 c1).2.1 c2) hS))
    · refine wq_lconst (z := 0) (zlitL rfl) rfl dX0_read_23 ?_
      exact wp_lret rfl dX0_read_24 ((hv.2 c1).2.2 c2)
theorem vc_X0_read_30 {G : zG} {d : Nat} {Q : Option zV → zHp → Prop} (y0 : Nat) (hT_y0 : zT 369 y0 = (100, 2)) (y1 : Nat) (hT_y1 : zT 369 y1 = (103, 8)) (y2 : Int) (y4 : Int) (h : zHp) (hS : zSh h) (hd : 0 ≤ d) (I_30 : Nat → Nat → Int → Int → zHp → Prop) (hI_30 : ∀ (y0 : Nat) (y1 : Nat) (y2 : Int) (y4 : Int) (h' : zHp), I_30 y0 y1 y2 y4 h' → wpN G d M_X0_read 30 [(0, vR y0), (1, vR y1), (2, vL y2), (4, vI y4)] [] h' Q) 
    (hv : (((gI h y1 1) ≤ y4 → ((-2147483648 ≤ 8 * (gI h y1 1) ∧ 8 * (gI h y1 1) ≤ 2147483647) ∧ (∀ x2 : Int, x2 = (zshl 1 (8 * (gI h y1 1))) → (((gI h y1 2) ≠ 1 → Q (some (vL y2)) h) ∧ ((gI h y1 2) = 1 → ((y2 < (x2.tdiv 2) → Q (some (vL y2)) h) ∧ ((x2.tdiv 2) ≤ y2 → ((-9223372036854775808 ≤ y2 - x2 ∧ y2 - x2 ≤ 9223372036854775807) ∧ Q (some (vL (y2 - x2))) h)))))))) ∧ (y4 < (gI h y1 1) → (((gI h y1 3) = 0 → ((-9223372036854775808 ≤ 256 * y2 ∧ 256 * y2 ≤ 9223372036854775807) ∧ ((-2147483648 ≤ (gI h y1 0) + y4 ∧ (gI h y1 0) + y4 ≤ 2147483647) ∧ (((0 : Int) ≤ ((gI h y1 0) + y4) ∧ ((gI h y1 0) + y4) < (((zlen (y0 + 1)) : Nat) : Int)) ∧ ((-9223372036854775808 ≤ (256 * y2) + (gI h (y0 + 1) ((gI h y1 0) + y4).toNat) ∧ (256 * y2) + (gI h (y0 + 1) ((gI h y1 0) + y4).toNat) ≤ 9223372036854775807) ∧ (∀ x7 : Int, x7 = ((256 * y2) + (gI h (y0 + 1) ((gI h y1 0) + y4).toNat)) → ((-2147483648 ≤ y4 + 1 ∧ y4 + 1 ≤ 2147483647) ∧ ∀ x9 : Int, x9 = y4 + 1 → (zSh h → I_30 y0 y1 x7 x9 h)))))))) ∧ ((gI h y1 3) ≠ 0 → ((-2147483648 ≤ (gI h y1 1) - 1 ∧ (gI h y1 1) - 1 ≤ 2147483647) ∧ ((-2147483648 ≤ ((gI h y1 1) - 1) - y4 ∧ ((gI h y1 1) - 1) - y4 ≤ 2147483647) ∧ (∀ x11 : Int, x11 = (((gI h y1 1) - 1) - y4) → ((-9223372036854775808 ≤ 256 * y2 ∧ 256 * y2 ≤ 9223372036854775807) ∧ ((-2147483648 ≤ (gI h y1 0) + x11 ∧ (gI h y1 0) + x11 ≤ 2147483647) ∧ (((0 : Int) ≤ ((gI h y1 0) + x11) ∧ ((gI h y1 0) + x11) < (((zlen (y0 + 1)) : Nat) : Int)) ∧ ((-9223372036854775808 ≤ (256 * y2) + (gI h (y0 + 1) ((gI h y1 0) + x11).toNat) ∧ (256 * y2) + (gI h (y0 + 1) ((gI h y1 0) + x11).toNat) ≤ 9223372036854775807) ∧ (∀ x13 : Int, x13 = ((256 * y2) + (gI h (y0 + 1) ((gI h y1 0) + x11).toNat)) → ((-2147483648 ≤ y4 + 1 ∧ y4 + 1 ≤ 2147483647) ∧ ∀ x15 : Int, x15 = y4 + 1 → (zSh h → I_30 y0 y1 x13 x15 h))))))))))))))) : wpN G d M_X0_read 30 [(0, vR y0), (1, vR y1), (2, vL y2), (4, vI y4)] [] h Q := by
  refine wq_iload 3 rfl dX0_read_30 ?_
  refine wq_aload_n 1 rfl rfl dX0_read_32 ?_
  refine wq_getI fk_X0_44 hT_y1 (fun _ _ _ => rfl) dX0_read_33 ?_
  refine wq_icmp_ge 88 rfl dX0_read_36 (fun c1 => ?_) (fun c1 => ?_)
  · refine wq_lconst (z := 1) (zlitL rfl) rfl dX0_read_88 ?_
    refine wq_bipush (z := 8) (zlit rfl) rfl dX0_read_89 ?_
    refine wq_aload_n 1 rfl rfl dX0_read_91 ?_
    refine wq_getI fk_X0_44 hT_y1 (fun _ _ _ => rfl) dX0_read_92 ?_
    refine wq_imul (hv.1 c1).1 dX0_read_95 ?_
    refine wq_lshl dX0_read_96 ?_
    refine wq_topL (fun x2 e3 => ?_)
    refine wq_lstore (ls' := [(0, vR y0), (1, vR y1), (2, vL y2), (4, vL x2)]) (by decide) rfl dX0_read_97 ?_
    refine wq_aload_n 1 rfl rfl dX0_read_99 ?_
    refine wq_getI fk_X0_51 hT_y1 (fun _ _ _ => rfl) dX0_read_100 ?_
    refine wq_iconst (z := 1) (zlit rfl) dX0_read_103 ?_
    refine wq_icmp_ne 125 rfl dX0_read_104 (fun c4 => ?_) (fun c4 => ?_)
    · refine wq_lload_n 2 rfl rfl dX0_read_125 ?_
      exact wp_lret rfl dX0_read_126 (((hv.1 c1).2 x2 e3).1 c4)
    · refine wq_lload_n 2 rfl rfl dX0_read_107 ?_
      refine wq_lload 3 rfl dX0_read_108 ?_
      refine wq_ldc2_w (z := 2) (zlitL rfl) kc_X0_56 dX0_read_110 ?_
      refine wq_ldiv (by decide) dX0_read_113 ?_
      refine wq_lcmp_lt 125 rfl dX0_read_114 dX0_read_115 (fun c5 => ?_) (fun c5 => ?_)
      · refine wq_lload_n 2 rfl rfl dX0_read_125 ?_
        exact wp_lret rfl dX0_read_126 ((((hv.1 c1).2 x2 e3).2 c4).1 c5)
      · refine wq_lload_n 2 rfl rfl dX0_read_118 ?_
        refine wq_lload 3 rfl dX0_read_119 ?_
        refine wq_lsub ((((hv.1 c1).2 x2 e3).2 c4).2 c5).1 dX0_read_121 ?_
        refine wq_goto 126 rfl dX0_read_122 ?_
        exact wp_lret rfl dX0_read_126 ((((hv.1 c1).2 x2 e3).2 c4).2 c5).2
  · refine wq_aload_n 1 rfl rfl dX0_read_39 ?_
    refine wq_getI fk_X0_45 hT_y1 (fun _ _ _ => rfl) dX0_read_40 ?_
    refine wq_if_eq 58 rfl dX0_read_43 (fun c6 => ?_) (fun c6 => ?_)
    · refine wq_iload 3 rfl dX0_read_58 ?_
      refine wq_istore (ls' := [(0, vR y0), (1, vR y1), (2, vL y2), (4, vI y4), (5, vI y4)]) (by decide) rfl dX0_read_60 ?_
      refine wq_ldc2_w (z := 256) (zlitL rfl) kc_X0_49 dX0_read_62 ?_
      refine wq_lload_n 2 rfl rfl dX0_read_65 ?_
      refine wq_lmul ((hv.2 c1).1 c6).1 dX0_read_66 ?_
      refine wq_aload_n 0 rfl rfl dX0_read_67 ?_
      refine wq_getR (r := (y0 + 1)) fk_X0_15 hT_y0 (fun _ _ _ => rfl) (sh_0_0 hS hT_y0) (by omega) dX0_read_68 ?_
      refine wq_aload_n 1 rfl rfl dX0_read_71 ?_
      refine wq_getI fk_X0_39 hT_y1 (fun _ _ _ => rfl) dX0_read_72 ?_
      refine wq_iload 4 rfl dX0_read_75 ?_
      refine wq_iadd ((hv.2 c1).1 c6).2.1 dX0_read_77 ?_
      refine wq_iald (zrow1 hT_y0) ((hv.2 c1).1 c6).2.2.1.1 ((hv.2 c1).1 c6).2.2.1.2 dX0_read_78 ?_
      refine wq_i2l dX0_read_79 ?_
      refine wq_ladd ((hv.2 c1).1 c6).2.2.2.1 dX0_read_80 ?_
      refine wq_topL (fun x7 e8 => ?_)
      refine wq_lstore_n (ls' := [(0, vR y0), (1, vR y1), (2, vL x7), (4, vI y4), (5, vI y4)]) rfl (by decide) rfl dX0_read_81 ?_
      refine z_nm (y4 + 1) (fun x9 e10 => ?_)
      refine wq_iinc (y := x9) (ls' := [(0, vR y0), (1, vR y1), (2, vL x7), (4, vI x9), (5, vI y4)]) 3 rfl e10.symm (by rw [e10]; exact (((hv.2 c1).1 c6).2.2.2.2 x7 e8).1) (by decide) rfl dX0_read_82 ?_
      refine wq_goto 30 rfl dX0_read_85 ?_
      exact wq_pick [0, 1, 2, 3] rfl (hI_30 y0 y1 x7 x9 h (((((hv.2 c1).1 c6).2.2.2.2 x7 e8).2 x9 e10) hS))
    · refine wq_aload_n 1 rfl rfl dX0_read_46 ?_
      refine wq_getI fk_X0_44 hT_y1 (fun _ _ _ => rfl) dX0_read_47 ?_
      refine wq_iconst (z := 1) (zlit rfl) dX0_read_50 ?_
      refine wq_isub ((hv.2 c1).2 c6).1 dX0_read_51 ?_
      refine wq_iload 3 rfl dX0_read_52 ?_
      refine wq_isub ((hv.2 c1).2 c6).2.1 dX0_read_54 ?_
      refine wq_goto 60 rfl dX0_read_55 ?_
      refine wq_topI (fun x11 e12 => ?_)
      refine wq_istore (ls' := [(0, vR y0), (1, vR y1), (2, vL y2), (4, vI y4), (5, vI x11)]) (by decide) rfl dX0_read_60 ?_
      refine wq_ldc2_w (z := 256) (zlitL rfl) kc_X0_49 dX0_read_62 ?_
      refine wq_lload_n 2 rfl rfl dX0_read_65 ?_
      refine wq_lmul (((hv.2 c1).2 c6).2.2 x11 e12).1 dX0_read_66 ?_
      refine wq_aload_n 0 rfl rfl dX0_read_67 ?_
      refine wq_getR (r := (y0 + 1)) fk_X0_15 hT_y0 (fun _ _ _ => rfl) (sh_0_0 hS hT_y0) (by omega) dX0_read_68 ?_
      refine wq_aload_n 1 rfl rfl dX0_read_71 ?_
      refine wq_getI fk_X0_39 hT_y1 (fun _ _ _ => rfl) dX0_read_72 ?_
      refine wq_iload 4 rfl dX0_read_75 ?_
      refine wq_iadd (((hv.2 c1).2 c6).2.2 x11 e12).2.1 dX0_read_77 ?_
      refine wq_iald (zrow1 hT_y0) (((hv.2 c1).2 c6).2.2 x11 e12).2.2.1.1 (((hv.2 c1).2 c6).2.2 x11 e12).2.2.1.2 dX0_read_78 ?_
      refine wq_i2l dX0_read_79 ?_
      refine wq_ladd (((hv.2 c1).2 c6).2.2 x11 e12).2.2.2.1 dX0_read_80 ?_
      refine wq_topL (fun x13 e14 => ?_)
      refine wq_lstore_n (ls' := [(0, vR y0), (1, vR y1), (2, vL x13), (4, vI y4), (5, vI x11)]) rfl (by decide) rfl dX0_read_81 ?_
      refine z_nm (y4 + 1) (fun x15 e16 => ?_)
      refine wq_iinc (y := x15) (ls' := [(0, vR y0), (1, vR y1), (2, vL x13), (4, vI x15), (5, vI x11)]) 3 rfl e16.symm (by rw [e16]; exact ((((hv.2 c1).2 c6).2.2 x11 e12).2.2.2.2 x13 e14).1) (by decide) rfl dX0_read_82 ?_
      refine wq_goto 30 rfl dX0_read_85 ?_
      exact wq_pick [0, 1, 2, 3] rfl (hI_30 y0 y1 x13 x15 h ((((((hv.2 c1).2 c6).2.2 x11 e12).2.2.2.2 x13 e14).2 x15 e16) hS))
theorem dX0_write_0 : decode cX0_write 0 = .ok (.iconst 0, 1) := by decide +kernel
theorem dX0_write_1 : decode cX0_write 1 = .ok (.istore 4, 2) := by decide +kernel
theorem dX0_write_3 : decode cX0_write 3 = .ok (.iload 4, 2) := by decide +kernel
theorem dX0_write_5 : decode cX0_write 5 = .ok (.aload_n 1, 1) := by decide +kernel
theorem dX0_write_6 : decode cX0_write 6 = .ok (.getfield 44, 3) := by decide +kernel
theorem dX0_write_9 : decode cX0_write 9 = .ok (.if_icmp .ge 55, 3) := by decide +kernel
theorem dX0_write_12 : decode cX0_write 12 = .ok (.aload_n 1, 1) := by decide +kernel
theorem dX0_write_13 : decode cX0_write 13 = .ok (.getfield 45, 3) := by decide +kernel
theorem dX0_write_16 : decode cX0_write 16 = .ok (.ifCond .eq 8, 3) := by decide +kernel
theorem dX0_write_19 : decode cX0_write 19 = .ok (.iload 4, 2) := by decide +kernel
theorem dX0_write_21 : decode cX0_write 21 = .ok (.goto 12, 3) := by decide +kernel
theorem dX0_write_24 : decode cX0_write 24 = .ok (.aload_n 1, 1) := by decide +kernel
theorem dX0_write_25 : decode cX0_write 25 = .ok (.getfield 44, 3) := by decide +kernel
theorem dX0_write_28 : decode cX0_write 28 = .ok (.iconst 1, 1) := by decide +kernel
theorem dX0_write_29 : decode cX0_write 29 = .ok (.isub, 1) := by decide +kernel
theorem dX0_write_30 : decode cX0_write 30 = .ok (.iload 4, 2) := by decide +kernel
theorem dX0_write_32 : decode cX0_write 32 = .ok (.isub, 1) := by decide +kernel
theorem dX0_write_33 : decode cX0_write 33 = .ok (.istore 5, 2) := by decide +kernel
theorem dX0_write_35 : decode cX0_write 35 = .ok (.aload_n 0, 1) := by decide +kernel
theorem dX0_write_36 : decode cX0_write 36 = .ok (.aload_n 1, 1) := by decide +kernel
theorem dX0_write_37 : decode cX0_write 37 = .ok (.getfield 39, 3) := by decide +kernel
theorem dX0_write_40 : decode cX0_write 40 = .ok (.iload 5, 2) := by decide +kernel
theorem dX0_write_42 : decode cX0_write 42 = .ok (.iadd, 1) := by decide +kernel
theorem dX0_write_43 : decode cX0_write 43 = .ok (.lload_n 2, 1) := by decide +kernel
theorem dX0_write_44 : decode cX0_write 44 = .ok (.bipush 8, 2) := by decide +kernel
theorem dX0_write_46 : decode cX0_write 46 = .ok (.iload 4, 2) := by decide +kernel
theorem dX0_write_48 : decode cX0_write 48 = .ok (.imul, 1) := by decide +kernel
theorem dX0_write_49 : decode cX0_write 49 = .ok (.lshr, 1) := by decide +kernel
theorem dX0_write_50 : decode cX0_write 50 = .ok (.ldc2_w 58, 3) := by decide +kernel
theorem dX0_write_53 : decode cX0_write 53 = .ok (.land, 1) := by decide +kernel
theorem dX0_write_54 : decode cX0_write 54 = .ok (.l2i, 1) := by decide +kernel
theorem dX0_write_55 : decode cX0_write 55 = .ok (.invokevirtual 29, 3) := by decide +kernel
theorem dX0_write_58 : decode cX0_write 58 = .ok (.iinc 4 1, 3) := by decide +kernel
theorem dX0_write_61 : decode cX0_write 61 = .ok (.goto (-58), 3) := by decide +kernel
theorem dX0_write_64 : decode cX0_write 64 = .ok (.return_, 1) := by decide +kernel
theorem vc_X0_write_0 {G : zG} {d : Nat} {Q : Option zV → zHp → Prop} (a : Nat) (hT_a : zT 369 a = (100, 2)) (p1 : Nat) (hT_p1 : zT 369 p1 = (103, 8)) (p2 : Int) (h : zHp) (hS : zSh h) (hd : 1 ≤ d) (I_3 : Nat → Nat → Int → Int → zHp → Prop) (hI_3 : ∀ (y0 : Nat) (y1 : Nat) (y2 : Int) (y4 : Int) (h' : zHp), I_3 y0 y1 y2 y4 h' → wpN G d M_X0_write 3 [(0, vR y0), (1, vR y1), (2, vL y2), (4, vI y4)] [] h' Q) 
    (hv : (zSh h → I_3 a p1 p2 0 h)) : wpN G d M_X0_write 0 [(0, vR a), (1, vR p1), (2, vL p2)] [] h Q := by
  refine wq_iconst (z := 0) (zlit rfl) dX0_write_0 ?_
  refine wq_istore (ls' := [(0, vR a), (1, vR p1), (2, vL p2), (4, vI 0)]) (by decide) rfl dX0_write_1 ?_
  exact wq_pick [0, 1, 2, 3] rfl (hI_3 a p1 p2 0 h (hv hS))
theorem vc_X0_write_3 {G : zG} {d : Nat} {Q : Option zV → zHp → Prop} (y0 : Nat) (hT_y0 : zT 369 y0 = (100, 2)) (y1 : Nat) (hT_y1 : zT 369 y1 = (103, 8)) (y2 : Int) (y4 : Int) (h : zHp) (hS : zSh h) (hd : 1 ≤ d) (I_3 : Nat → Nat → Int → Int → zHp → Prop) (hI_3 : ∀ (y0 : Nat) (y1 : Nat) (y2 : Int) (y4 : Int) (h' : zHp), I_3 y0 y1 y2 y4 h' → wpN G d M_X0_write 3 [(0, vR y0), (1, vR y1), (2, vL y2), (4, vI y4)] [] h' Q) 
    (hv : (((gI h y1 1) ≤ y4 → Q none h) ∧ (y4 < (gI h y1 1) → (((gI h y1 3) = 0 → ((-2147483648 ≤ (gI h y1 1) - 1 ∧ (gI h y1 1) - 1 ≤ 2147483647) ∧ ((-2147483648 ≤ ((gI h y1 1) - 1) - y4 ∧ ((gI h y1 1) - 1) - y4 ≤ 2147483647) ∧ (∀ x3 : Int, x3 = (((gI h y1 1) - 1) - y4) → ((-2147483648 ≤ (gI h y1 0) + x3 ∧ (gI h y1 0) + x3 ≤ 2147483647) ∧ ((-2147483648 ≤ 8 * y4 ∧ 8 * y4 ≤ 2147483647) ∧ (wpN G (d - 1) M_X0_put 0 (zar 0 [vR y0, vI ((gI h y1 0) + x3), vI (w32 (zandL (zshr y2 (8 * y4)) 255))]) [] h (qV (fun h6 => zSh h6 ∧ ((-2147483648 ≤ y4 + 1 ∧ y4 + 1 ≤ 2147483647) ∧ ∀ x9 : Int, x9 = y4 + 1 → (zSh h6 → I_3 y0 y1 y2 x9 h6))))))))))) ∧ ((gI h y1 3) ≠ 0 → ((-2147483648 ≤ (gI h y1 0) + y4 ∧ (gI h y1 0) + y4 ≤ 2147483647) ∧ ((-2147483648 ≤ 8 * y4 ∧ 8 * y4 ≤ 2147483647) ∧ (wpN G (d - 1) M_X0_put 0 (zar 0 [vR y0, vI ((gI h y1 0) + y4), vI (w32 (zandL (zshr y2 (8 * y4)) 255))]) [] h (qV (fun h12 => zSh h12 ∧ ((-2147483648 ≤ y4 + 1 ∧ y4 + 1 ≤ 2147483647) ∧ ∀ x15 : Int, x15 = y4 + 1 → (zSh h12 → I_3 y0 y1 y2 x15 h12)))))))))))) : wpN G d M_X0_write 3 [(0, vR y0), (1, vR y1), (2, vL y2), (4, vI y4)] [] h Q := by
  refine wq_iload 3 rfl dX0_write_3 ?_
  refine wq_aload_n 1 rfl rfl dX0_write_5 ?_
  refine wq_getI fk_X0_44 hT_y1 (fun _ _ _ => rfl) dX0_write_6 ?_
  refine wq_icmp_ge 64 rfl dX0_write_9 (fun c1 => ?_) (fun c1 => ?_)
  · exact wp_vret rfl dX0_write_64 (hv.1 c1)
  · refine wq_aload_n 1 rfl rfl dX0_write_12 ?_
    refine wq_getI fk_X0_45 hT_y1 (fun _ _ _ => rfl) dX0_write_13 ?_
    refine wq_if_eq 24 rfl dX0_write_16 (fun c2 => ?_) (fun c2 => ?_)
    · refine wq_aload_n 1 rfl rfl dX0_write_24 ?_
      refine wq_getI fk_X0_44 hT_y1 (fun _ _ _ => rfl) dX0_write_25 ?_
      refine wq_iconst (z := 1) (zlit rfl) dX0_write_28 ?_
      refine wq_isub ((hv.2 c1).1 c2).1 dX0_write_29 ?_
      refine wq_iload 3 rfl dX0_write_30 ?_
      refine wq_isub ((hv.2 c1).1 c2).2.1 dX0_write_32 ?_
      refine wq_topI (fun x3 e4 => ?_)
      refine wq_istore (ls' := [(0, vR y0), (1, vR y1), (2, vL y2), (4, vI y4), (5, vI x3)]) (by decide) rfl dX0_write_33 ?_
      refine wq_aload_n 0 rfl rfl dX0_write_35 ?_
      refine wq_aload_n 1 rfl rfl dX0_write_36 ?_
      refine wq_getI fk_X0_39 hT_y1 (fun _ _ _ => rfl) dX0_write_37 ?_
      refine wq_iload 4 rfl dX0_write_40 ?_
      refine wq_iadd (((hv.2 c1).1 c2).2.2 x3 e4).1 dX0_write_42 ?_
      refine wq_lload_n 2 rfl rfl dX0_write_43 ?_
      refine wq_bipush (z := 8) (zlit rfl) rfl dX0_write_44 ?_
      refine wq_iload 3 rfl dX0_write_46 ?_
      refine wq_imul (((hv.2 c1).1 c2).2.2 x3 e4).2.1 dX0_write_48 ?_
      refine wq_lshr dX0_write_49 ?_
      refine wq_ldc2_w (z := 255) (zlitL rfl) kc_X0_58 dX0_write_50 ?_
      refine wq_land dX0_write_53 ?_
      refine wq_l2i dX0_write_54 ?_
      refine wN_V (As := [vI ((gI h y1 0) + x3), vI (w32 (zandL (zshr y2 (8 * y4)) 255))]) vm_X0_put lk_X0_29 hT_y0 rfl rfl (Nat.le_of_ble_eq_true rfl) (Nat.le_of_ble_eq_true rfl) (d' := d - 1) (by omega) dX0_write_55 (((hv.2 c1).1 c2).2.2 x3 e4).2.2 (fun v9 h6 q7 => ?_)
      obtain ⟨rfl, hS8, q7⟩ := q7
      refine wq_st (st' := []) rfl ?_
      refine z_nm (y4 + 1) (fun x9 e10 => ?_)
      refine wq_iinc (y := x9) (ls' := [(0, vR y0), (1, vR y1), (2, vL y2), (4, vI x9), (5, vI x3)]) 3 rfl e10.symm (by rw [e10]; exact q7.1) (by decide) rfl dX0_write_58 ?_
      refine wq_goto 3 rfl dX0_write_61 ?_
      exact wq_pick [0, 1, 2, 3] rfl (hI_3 y0 y1 y2 x9 h6 ((q7.2 x9 e10) hS8))
    · refine wq_iload 3 rfl dX0_write_19 ?_
      refine wq_goto 33 rfl dX0_write_21 ?_
      refine wq_istore (ls' := [(0, vR y0), (1, vR y1), (2, vL y2), (4, vI y4), (5, vI y4)]) (by decide) rfl dX0_write_33 ?_
      refine wq_aload_n 0 rfl rfl dX0_write_35 ?_
      refine wq_aload_n 1 rfl rfl dX0_write_36 ?_
      refine wq_getI fk_X0_39 hT_y1 (fun _ _ _ => rfl) dX0_write_37 ?_
      refine wq_iload 4 rfl dX0_write_40 ?_
      refine wq_iadd ((hv.2 c1).2 c2).1 dX0_write_42 ?_
      refine wq_lload_n 2 rfl rfl dX0_write_43 ?_
      refine wq_bipush (z := 8) (zlit rfl) rfl dX0_write_44 ?_
      refine wq_iload 3 rfl dX0_write_46 ?_
      refine wq_imul ((hv.2 c1).2 c2).2.1 dX0_write_48 ?_
      refine wq_lshr dX0_write_49 ?_
      refine wq_ldc2_w (z := 255) (zlitL rfl) kc_X0_58 dX0_write_50 ?_
      refine wq_land dX0_write_53 ?_
      refine wq_l2i dX0_write_54 ?_
      refine wN_V (As := [vI ((gI h y1 0) + y4), vI (w32 (zandL (zshr y2 (8 * y4)) 255))]) vm_X0_put lk_X0_29 hT_y0 rfl rfl (Nat.le_of_ble_eq_true rfl) (Nat.le_of_ble_eq_true rfl) (d' := d - 1) (by omega) dX0_write_55 ((hv.2 c1).2 c2).2.2 (fun v9 h12 q13 => ?_)
      obtain ⟨rfl, hS14, q13⟩ := q13
      refine wq_st (st' := []) rfl ?_
      refine z_nm (y4 + 1) (fun x15 e16 => ?_)
      refine wq_iinc (y := x15) (ls' := [(0, vR y0), (1, vR y1), (2, vL y2), (4, vI x15), (5, vI y4)]) 3 rfl e16.symm (by rw [e16]; exact q13.1) (by decide) rfl dX0_write_58 ?_
      refine wq_goto 3 rfl dX0_write_61 ?_
      exact wq_pick [0, 1, 2, 3] rfl (hI_3 y0 y1 y2 x15 h12 ((q13.2 x15 e16) hS14))
