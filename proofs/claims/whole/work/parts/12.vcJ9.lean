theorem dJ9_floorMod_7cf53_0 : decode cJ9_floorMod_7cf53 0 = .ok (.iload_n 0, 1) := by decide +kernel
theorem dJ9_floorMod_7cf53_1 : decode cJ9_floorMod_7cf53 1 = .ok (.iload_n 1, 1) := by decide +kernel
theorem dJ9_floorMod_7cf53_2 : decode cJ9_floorMod_7cf53 2 = .ok (.irem, 1) := by decide +kernel
theorem dJ9_floorMod_7cf53_3 : decode cJ9_floorMod_7cf53 3 = .ok (.istore_n 2, 1) := by decide +kernel
theorem dJ9_floorMod_7cf53_4 : decode cJ9_floorMod_7cf53 4 = .ok (.iload_n 0, 1) := by decide +kernel
theorem dJ9_floorMod_7cf53_5 : decode cJ9_floorMod_7cf53 5 = .ok (.iload_n 1, 1) := by decide +kernel
theorem dJ9_floorMod_7cf53_6 : decode cJ9_floorMod_7cf53 6 = .ok (.ixor, 1) := by decide +kernel
theorem dJ9_floorMod_7cf53_7 : decode cJ9_floorMod_7cf53 7 = .ok (.ifCond .ge 11, 3) := by decide +kernel
theorem dJ9_floorMod_7cf53_10 : decode cJ9_floorMod_7cf53 10 = .ok (.iload_n 2, 1) := by decide +kernel
theorem dJ9_floorMod_7cf53_11 : decode cJ9_floorMod_7cf53 11 = .ok (.ifCond .eq 7, 3) := by decide +kernel
theorem dJ9_floorMod_7cf53_14 : decode cJ9_floorMod_7cf53 14 = .ok (.iload_n 2, 1) := by decide +kernel
theorem dJ9_floorMod_7cf53_15 : decode cJ9_floorMod_7cf53 15 = .ok (.iload_n 1, 1) := by decide +kernel
theorem dJ9_floorMod_7cf53_16 : decode cJ9_floorMod_7cf53 16 = .ok (.iadd, 1) := by decide +kernel
theorem dJ9_floorMod_7cf53_17 : decode cJ9_floorMod_7cf53 17 = .ok (.ireturn, 1) := by decide +kernel
theorem dJ9_floorMod_7cf53_18 : decode cJ9_floorMod_7cf53 18 = .ok (.iload_n 2, 1) := by decide +kernel
theorem dJ9_floorMod_7cf53_19 : decode cJ9_floorMod_7cf53 19 = .ok (.ireturn, 1) := by decide +kernel
theorem vc_J9_floorMod_7cf53_0 {G : zG} {d : Nat} {Q : Option zV → zHp → Prop} (p1 : Int) (p2 : Int) (h : zHp) (hS : zSh h) (hd : 0 ≤ d)  
    (hv : ((0 < p2) ∧ (∀ x1 : Int, x1 = (p1.tmod p2) → ((0 ≤ (zxor p1 p2) → Q (some (vI x1)) h) ∧ ((zxor p1 p2) < 0 → ((x1 = 0 → Q (some (vI x1)) h) ∧ (x1 ≠ 0 → ((-2147483648 ≤ x1 + p2 ∧ x1 + p2 ≤ 2147483647) ∧ Q (some (vI (x1 + p2))) h)))))))) : wpN G d M_J9_floorMod_7cf53 0 [(0, vI p1), (1, vI p2)] [] h Q := by
  refine wq_iload_n 0 rfl rfl dJ9_floorMod_7cf53_0 ?_
  refine wq_iload_n 1 rfl rfl dJ9_floorMod_7cf53_1 ?_
  refine wq_irem hv.1 dJ9_floorMod_7cf53_2 ?_
  refine wq_topI (fun x1 e2 => ?_)
  refine wq_istore_n (ls' := [(0, vI p1), (1, vI p2), (2, vI x1)]) rfl (by decide) rfl dJ9_floorMod_7cf53_3 ?_
  refine wq_iload_n 0 rfl rfl dJ9_floorMod_7cf53_4 ?_
  refine wq_iload_n 1 rfl rfl dJ9_floorMod_7cf53_5 ?_
  refine wq_ixor dJ9_floorMod_7cf53_6 ?_
  refine wq_if_ge 18 rfl dJ9_floorMod_7cf53_7 (fun c3 => ?_) (fun c3 => ?_)
  · refine wq_iload_n 2 rfl rfl dJ9_floorMod_7cf53_18 ?_
    exact wp_iret rfl dJ9_floorMod_7cf53_19 ((hv.2 x1 e2).1 c3)
  · refine wq_iload_n 2 rfl rfl dJ9_floorMod_7cf53_10 ?_
    refine wq_if_eq 18 rfl dJ9_floorMod_7cf53_11 (fun c4 => ?_) (fun c4 => ?_)
    · refine wq_iload_n 2 rfl rfl dJ9_floorMod_7cf53_18 ?_
      exact wp_iret rfl dJ9_floorMod_7cf53_19 (((hv.2 x1 e2).2 c3).1 c4)
    · refine wq_iload_n 2 rfl rfl dJ9_floorMod_7cf53_14 ?_
      refine wq_iload_n 1 rfl rfl dJ9_floorMod_7cf53_15 ?_
      refine wq_iadd (((hv.2 x1 e2).2 c3).2 c4).1 dJ9_floorMod_7cf53_16 ?_
      exact wp_iret rfl dJ9_floorMod_7cf53_17 (((hv.2 x1 e2).2 c3).2 c4).2
theorem dJ9_max_7cf53_0 : decode cJ9_max_7cf53 0 = .ok (.iload_n 0, 1) := by decide +kernel
theorem dJ9_max_7cf53_1 : decode cJ9_max_7cf53 1 = .ok (.iload_n 1, 1) := by decide +kernel
theorem dJ9_max_7cf53_2 : decode cJ9_max_7cf53 2 = .ok (.if_icmp .lt 7, 3) := by decide +kernel
theorem dJ9_max_7cf53_5 : decode cJ9_max_7cf53 5 = .ok (.iload_n 0, 1) := by decide +kernel
theorem dJ9_max_7cf53_6 : decode cJ9_max_7cf53 6 = .ok (.goto 4, 3) := by decide +kernel
theorem dJ9_max_7cf53_9 : decode cJ9_max_7cf53 9 = .ok (.iload_n 1, 1) := by decide +kernel
theorem dJ9_max_7cf53_10 : decode cJ9_max_7cf53 10 = .ok (.ireturn, 1) := by decide +kernel
theorem vc_J9_max_7cf53_0 {G : zG} {d : Nat} {Q : Option zV → zHp → Prop} (p1 : Int) (p2 : Int) (h : zHp) (hS : zSh h) (hd : 0 ≤ d)  
    (hv : ((p1 < p2 → Q (some (vI p2)) h) ∧ (p2 ≤ p1 → Q (some (vI p1)) h))) : wpN G d M_J9_max_7cf53 0 [(0, vI p1), (1, vI p2)] [] h Q := by
  refine wq_iload_n 0 rfl rfl dJ9_max_7cf53_0 ?_
  refine wq_iload_n 1 rfl rfl dJ9_max_7cf53_1 ?_
  refine wq_icmp_lt 9 rfl dJ9_max_7cf53_2 (fun c1 => ?_) (fun c1 => ?_)
  · refine wq_iload_n 1 rfl rfl dJ9_max_7cf53_9 ?_
    exact wp_iret rfl dJ9_max_7cf53_10 (hv.1 c1)
  · refine wq_iload_n 0 rfl rfl dJ9_max_7cf53_5 ?_
    refine wq_goto 10 rfl dJ9_max_7cf53_6 ?_
    exact wp_iret rfl dJ9_max_7cf53_10 (hv.2 c1)
theorem dJ9_max_f86c9_0 : decode cJ9_max_f86c9 0 = .ok (.lload_n 0, 1) := by decide +kernel
theorem dJ9_max_f86c9_1 : decode cJ9_max_f86c9 1 = .ok (.lload_n 2, 1) := by decide +kernel
theorem dJ9_max_f86c9_2 : decode cJ9_max_f86c9 2 = .ok (.lcmp, 1) := by decide +kernel
theorem dJ9_max_f86c9_3 : decode cJ9_max_f86c9 3 = .ok (.ifCond .lt 7, 3) := by decide +kernel
theorem dJ9_max_f86c9_6 : decode cJ9_max_f86c9 6 = .ok (.lload_n 0, 1) := by decide +kernel
theorem dJ9_max_f86c9_7 : decode cJ9_max_f86c9 7 = .ok (.goto 4, 3) := by decide +kernel
theorem dJ9_max_f86c9_10 : decode cJ9_max_f86c9 10 = .ok (.lload_n 2, 1) := by decide +kernel
theorem dJ9_max_f86c9_11 : decode cJ9_max_f86c9 11 = .ok (.lreturn, 1) := by decide +kernel
theorem vc_J9_max_f86c9_0 {G : zG} {d : Nat} {Q : Option zV → zHp → Prop} (p1 : Int) (p2 : Int) (h : zHp) (hS : zSh h) (hd : 0 ≤ d)  
    (hv : ((p1 < p2 → Q (some (vL p2)) h) ∧ (p2 ≤ p1 → Q (some (vL p1)) h))) : wpN G d M_J9_max_f86c9 0 [(0, vL p1), (2, vL p2)] [] h Q := by
  refine wq_lload_n 0 rfl rfl dJ9_max_f86c9_0 ?_
  refine wq_lload_n 1 rfl rfl dJ9_max_f86c9_1 ?_
  refine wq_lcmp_lt 10 rfl dJ9_max_f86c9_2 dJ9_max_f86c9_3 (fun c1 => ?_) (fun c1 => ?_)
  · refine wq_lload_n 1 rfl rfl dJ9_max_f86c9_10 ?_
    exact wp_lret rfl dJ9_max_f86c9_11 (hv.1 c1)
  · refine wq_lload_n 0 rfl rfl dJ9_max_f86c9_6 ?_
    refine wq_goto 11 rfl dJ9_max_f86c9_7 ?_
    exact wp_lret rfl dJ9_max_f86c9_11 (hv.2 c1)
theorem dJ9_min_7cf53_0 : decode cJ9_min_7cf53 0 = .ok (.iload_n 0, 1) := by decide +kernel
theorem dJ9_min_7cf53_1 : decode cJ9_min_7cf53 1 = .ok (.iload_n 1, 1) := by decide +kernel
theorem dJ9_min_7cf53_2 : decode cJ9_min_7cf53 2 = .ok (.if_icmp .gt 7, 3) := by decide +kernel
theorem dJ9_min_7cf53_5 : decode cJ9_min_7cf53 5 = .ok (.iload_n 0, 1) := by decide +kernel
theorem dJ9_min_7cf53_6 : decode cJ9_min_7cf53 6 = .ok (.goto 4, 3) := by decide +kernel
theorem dJ9_min_7cf53_9 : decode cJ9_min_7cf53 9 = .ok (.iload_n 1, 1) := by decide +kernel
theorem dJ9_min_7cf53_10 : decode cJ9_min_7cf53 10 = .ok (.ireturn, 1) := by decide +kernel
theorem vc_J9_min_7cf53_0 {G : zG} {d : Nat} {Q : Option zV → zHp → Prop} (p1 : Int) (p2 : Int) (h : zHp) (hS : zSh h) (hd : 0 ≤ d)  
    (hv : ((p2 < p1 → Q (some (vI p2)) h) ∧ (p1 ≤ p2 → Q (some (vI p1)) h))) : wpN G d M_J9_min_7cf53 0 [(0, vI p1), (1, vI p2)] [] h Q := by
  refine wq_iload_n 0 rfl rfl dJ9_min_7cf53_0 ?_
  refine wq_iload_n 1 rfl rfl dJ9_min_7cf53_1 ?_
  refine wq_icmp_gt 9 rfl dJ9_min_7cf53_2 (fun c1 => ?_) (fun c1 => ?_)
  · refine wq_iload_n 1 rfl rfl dJ9_min_7cf53_9 ?_
    exact wp_iret rfl dJ9_min_7cf53_10 (hv.1 c1)
  · refine wq_iload_n 0 rfl rfl dJ9_min_7cf53_5 ?_
    refine wq_goto 10 rfl dJ9_min_7cf53_6 ?_
    exact wp_iret rfl dJ9_min_7cf53_10 (hv.2 c1)
theorem dJ9_min_f86c9_0 : decode cJ9_min_f86c9 0 = .ok (.lload_n 0, 1) := by decide +kernel
theorem dJ9_min_f86c9_1 : decode cJ9_min_f86c9 1 = .ok (.lload_n 2, 1) := by decide +kernel
theorem dJ9_min_f86c9_2 : decode cJ9_min_f86c9 2 = .ok (.lcmp, 1) := by decide +kernel
theorem dJ9_min_f86c9_3 : decode cJ9_min_f86c9 3 = .ok (.ifCond .gt 7, 3) := by decide +kernel
theorem dJ9_min_f86c9_6 : decode cJ9_min_f86c9 6 = .ok (.lload_n 0, 1) := by decide +kernel
theorem dJ9_min_f86c9_7 : decode cJ9_min_f86c9 7 = .ok (.goto 4, 3) := by decide +kernel
theorem dJ9_min_f86c9_10 : decode cJ9_min_f86c9 10 = .ok (.lload_n 2, 1) := by decide +kernel
theorem dJ9_min_f86c9_11 : decode cJ9_min_f86c9 11 = .ok (.lreturn, 1) := by decide +kernel
theorem vc_J9_min_f86c9_0 {G : zG} {d : Nat} {Q : Option zV → zHp → Prop} (p1 : Int) (p2 : Int) (h : zHp) (hS : zSh h) (hd : 0 ≤ d)  
    (hv : ((p2 < p1 → Q (some (vL p2)) h) ∧ (p1 ≤ p2 → Q (some (vL p1)) h))) : wpN G d M_J9_min_f86c9 0 [(0, vL p1), (2, vL p2)] [] h Q := by
  refine wq_lload_n 0 rfl rfl dJ9_min_f86c9_0 ?_
  refine wq_lload_n 1 rfl rfl dJ9_min_f86c9_1 ?_
  refine wq_lcmp_gt 10 rfl dJ9_min_f86c9_2 dJ9_min_f86c9_3 (fun c1 => ?_) (fun c1 => ?_)
  · refine wq_lload_n 1 rfl rfl dJ9_min_f86c9_10 ?_
    exact wp_lret rfl dJ9_min_f86c9_11 (hv.1 c1)
  · refine wq_lload_n 0 rfl rfl dJ9_min_f86c9_6 ?_
    refine wq_goto 11 rfl dJ9_min_f86c9_7 ?_
    exact wp_lret rfl dJ9_min_f86c9_11 (hv.2 c1)
