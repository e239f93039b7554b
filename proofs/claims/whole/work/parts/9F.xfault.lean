/-! templateFault of the program -/
section TFAULT3
variable {G : zG} {d : Nat} {Q : Option zV → zHp → Prop} {h : zHp} {s : zSt}
theorem ztm_apart {a b : Nat} (ha : zT 369 a = (108, 2)) (hb : zT 369 b = (108, 2)) (n : a ≠ b) : a + 26 ≤ b ∨ b + 26 ≤ a := by
  have la := ztmp ha
  have lb := ztmp hb
  obtain ⟨_, _, q3⟩ := zT_at ha (by decide)
  obtain ⟨_, _, q4⟩ := zT_at hb (by decide)
  have r1 := ztmq_all a (by omega) q3
  have r2 := ztmq_all b (by omega) q4
  omega
theorem xPf_T {h' : zHp} {a c : Nat} {T : List (List Int)} (F : xPf a h h') (ha : zT 369 a = (108, 2)) (hc : zT 369 c = (108, 2)) (n : c ≠ a) (e : xT h c = T) (l : T.length ≤ 24) : xT h' c = T ∧ gI h' c 1 = gI h c 1 := by
  have ap := ztm_apart ha hc (fun w => n w.symm)
  have la := ztmp ha
  have lc := ztmp hc
  have e1 : gI h' c 1 = gI h c 1 := (F.1 c 1 (by unfold pFA p34; omega)).1
  rw [← e, xT_len] at l
  refine ⟨?_, e1⟩
  rw [← e]
  unfold xT
  rw [e1]
  refine List.map_congr_left (fun i hi => List.map_congr_left (fun f _ => ?_))
  have hi := List.mem_range.mp hi
  exact (F.1 (c + 2 + i) f (by unfold pFA p34; omega)).1
theorem XS_pf {h' : zHp} (F : xPf (gR h 1 10) h h') (hS : zSh h') (x : XS h s) : XS h' s ∧ xcF h h' := by
  obtain ⟨⟨_, x1, ⟨x2, x3⟩, ⟨x4, x5⟩, ⟨x6, x7⟩, x8, x9, x10, x11, x12⟩, xh⟩ := x
  have la := ztmp x10
  have F3 : zF3 (fun b => 81 ≤ b ∧ b ≤ 211) h h' := fun b hb => ⟨fun j => (F.1 b j (by unfold pFA p34; omega)).1, fun j => (F.1 b j (by unfold pFA p34; omega)).2, fun j => F.2 b j (by omega)⟩
  have t := reg_F F3 (a := 2) (b := 3) (by omega) (by omega) x3
  have c := reg_F F3 (a := 4) (b := 5) (by omega) (by omega) x5
  have m := reg_F F3 (a := 6) (b := 7) (by omega) (by omega) x7
  have e10 : gR h' 1 10 = gR h 1 10 := F.2 1 10 (by omega)
  have e80 : ∀ j, gR h' 80 j = gR h 80 j := fun j => F.2 80 j (by omega)
  refine ⟨⟨⟨hS, x1, ⟨t.1.trans x2, t.2⟩, ⟨c.1.trans x4, c.2⟩, ⟨m.1.trans x6, m.2⟩, ((F3 1 (by omega)).1 11).trans x8, fun t ht => ?_, by rw [e10]; exact x10, fun t ht => ?_, fun t u ht hu n => by rw [e80, e80]; exact x12 t u ht hu n⟩, (XH_F F3 (fun b h1 h2 w => by omega) xh).1⟩, xcF_3 F3 (fun b hb w => by omega)⟩
  · obtain ⟨q1, q2, q3⟩ := x9 t ht
    rw [e80]
    exact ⟨q1, (xPf_T F x10 q1 (x11 t ht).1 q2 q3.1).1, q3⟩
  · obtain ⟨q1, q2, q3⟩ := x9 t ht
    rw [e80, e10, (xPf_T F x10 q1 (x11 t ht).1 q2 q3.1).2]
    exact x11 t ht
theorem yx_templateFault (hd : 24 ≤ d) (x : XS h s) (k : ∀ g, XS g s → xcF h g → Q (some (vI (rTf (sTx s)))) g) : wpN G d M_X10_templateFault 0 (zar 0 [vR 1]) [] h Q := by
  have x10 := x.1.2.2.2.2.2.2.2.1
  refine vc_X10_templateFault_0 h x.1.1 (by omega) ⟨x10, sp_faultOf (t := sTx s) (by omega) x.1.1 x10 x.1.2.2.1 x.1.2.1.1 (fun h' T dn s' F _ _ => qI_i ⟨s', ?_⟩) (fun h' f fl s' F => qI_i ⟨s', ?_⟩)⟩
  · obtain ⟨a, b⟩ := XS_pf F s' x
    rw [rTf_d dn] at k
    exact k h' a b
  · obtain ⟨a, b⟩ := XS_pf F s' x
    rw [rTf_f fl] at k
    exact k h' a b
end TFAULT3
