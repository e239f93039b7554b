/-! define of the program -/
section XDEF
variable {G : zG} {d : Nat} {Q : Option zV → zHp → Prop} {h : zHp} {s : zSt}
theorem uS_x {t : Int} (x : XS h s) (ht : 0 ≤ t) : (∃ o : Nat, o < 4 ∧ dHas h 8 o = 1 ∧ gI h (8 + 3) o = t) ↔ uS s t := by
  have ov8 := (XS_8 x).2.2.2.2.1
  constructor
  · rintro ⟨o, ho, _, e⟩
    refine ⟨o, ho, ?_⟩
    rw [show ovA (sD s) o = (gI h 11 o, gI h 12 o) from ov8 o ho]
    exact e
  · rintro ⟨o, ho, e⟩
    rw [show ovA (sD s) o = (gI h 11 o, gI h 12 o) from ov8 o ho] at e
    have e : gI h 11 o = t := e
    refine ⟨o, ho, ?_, e⟩
    unfold dHas
    rw [if_pos ⟨by omega, by omega, by rw [show ((o : Nat) : Int).toNat = o by omega]; show gI h 11 o ≠ -1; omega⟩]
theorem yx_define {t : Int} (hd : 24 ≤ d) (x : XS h s) (k : ∀ g, XS g (rDef s t).2 → xcF h g → Q (some (vI (rDef s t).1)) g) : wpN G d M_X10_define 0 (zar 0 [vR 1, vI t]) [] h Q := by
  have x10 := x.1.2.2.2.2.2.2.2.1
  refine vc_X10_define_0 t h x.1.1 (by omega) (sp_X10_isWithin x.1.1 (fun r q => qI_i ⟨x.1.1, fun z => ?_, fun z => ?_⟩))
  · have ht : 0 ≤ t ∧ t ≤ 3 := by omega
    refine sp_X2_uses (by omega) zT_8 x.1.1 (fun u => qI_i ⟨x.1.1, fun _ => ?_, fun w => absurd w (by omega)⟩) (fun u => qI_i ⟨x.1.1, fun w => absurd rfl w, fun _ => ⟨x10, ?_⟩⟩)
    · rw [rDef_u ht ((uS_x x ht.1).mp u)] at k
      exact k h x xcF_rf
    · have nu : ¬ uS s t := fun w => by
        obtain ⟨o, ho, a, b⟩ := (uS_x x ht.1).mpr w
        exact u o ho a b
      refine sp_faultOf (t := sTx s) (by omega) x.1.1 x10 x.1.2.2.1 x.1.2.1.1 (fun h' T dn s' F ro l => qI_i ⟨s', fun _ => ?_, fun w => absurd rfl w⟩) (fun h' f fl s' F => qI_i ⟨s', fun w => absurd w (by omega), fun _ => ?_⟩)
      · obtain ⟨a, b⟩ := XS_pf F s' x
        have e10 : gR h' 1 10 = gR h 1 10 := F.2 1 10 (by omega)
        rw [← e10] at ro
        have ok := pDn_ok dn
        rw [rDef_y ht nu dn] at k
        have y10 := a.1.2.2.2.2.2.2.2.1
        have yt := (a.1.2.2.2.2.2.2.1 t.toNat (by omega)).1
        refine ⟨by omega, yt, y10, by omega, fun h16 e16 h18 e18 h20 e20 => ?_⟩
        obtain ⟨c1, c2⟩ := XS_swap (t := t.toNat) (g := h20) (by omega) a (xT_of ro ok) ok (by rw [ro.1]; omega) (by rw [e20, e18, e16])
        have e80 : gR h20 80 t.toNat = gR h' 1 10 := by rw [e20, e18, e16, gR_sI, gR_sR, if_neg (by omega), gR_sR, if_pos ⟨rfl, rfl⟩]
        have la := ztmp y10
        have en : gI h20 (gR h' 1 10) 1 = (T.length : Int) := by rw [e20, gI_sI, if_neg (by omega), e18, gI_sR, e16, gI_sR]; exact ro.1
        rw [e80, en]
        exact ⟨by omega, y10, k h20 c1 (xcF_tr b c2)⟩
      · obtain ⟨a, b⟩ := XS_pf F s' x
        rw [rDef_f ht fl] at k
        exact k h' a b
  · rw [rDef_n (by omega)] at k
    exact k h x xcF_rf
end XDEF
