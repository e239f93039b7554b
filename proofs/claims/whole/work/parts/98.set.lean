/-! a field is set -/
noncomputable def rSet (s : zSt) (o i v : Int) : Int × zSt := cI (hF s o i) (cI (fTakes ((fA s o i).1.getD 1 0) ((fA s o i).1.getD 2 0) v) (chR s (fdU (sB s) (fA s o i) v, sO s) (aFds o.toNat)) (-1004, s)) (-1001, s)
section SETF
variable {G : zG} {d : Nat} {Q : Option zV → zHp → Prop} {h : zHp} {s : zSt}
theorem yx_keep2 (hd : 3 ≤ d) (x : XS h s) (k : ∀ h', XM h' s (sD s) → zF3 hI8 h h' → Q none h') : wpN G d M_X4_keep 0 (zar 0 [vR 13]) [] h Q := by
  obtain ⟨xk, ho, x2, x3, x4⟩ := x
  exact sp_X4_keep hd xk.1 ho (fun h' s' F o' p f d8 kp _ _ => k h' ⟨XK_h8 F s' xk, ⟨o', by rw [d8, x2], by rw [p, x3], by rw [f, x4]⟩, by rw [kp, x2]⟩ F)
theorem ym_keep2 (hd : 1 ≤ d) (x : MS h s) (k : ∀ h', MM h' s (sD s) → zF4 (mCp 347 0) h h' → Q none h') : wpN G d M_X11_keeps 0 (zar 0 [vR 343]) [] h Q := by
  refine sp_keeps hd x.1.1 (fun h' s' F e => ?_)
  have p : ∀ b j, b ≠ 347 → ¬ mCp 347 0 b j := fun b j w z => w z.1
  have x8 := x.2.1.2.2.2.1
  refine k h' ⟨MK_F F (fun j _ => p _ _ (by omega)) (fun b j _ _ => p _ _ (by omega)) x.1, MH_F F (p _ _ (by omega)) (p _ _ (by omega)) (fun b j _ _ => p _ _ (by omega)) x.2, ?_, ?_⟩ F
  · exact mdOk_cp x8 (fun j hj => by rw [Nat.zero_add]; exact e j hj)
  · rw [mv_cp x8 (fun j hj => by rw [Nat.zero_add]; exact e j hj)]; exact x.2.2.1
theorem rSet_y {o i v : Int} {fd : List Int × List Int} (f : hF s o i) (e : fA s o i = fd) (t : fTakes (fd.1.getD 1 0) (fd.1.getD 2 0) v) : rSet s o i v = chR s (fdU (sB s) fd v, sO s) (aFds o.toNat) := by
  unfold rSet
  rw [e, cI_p f, cI_p t]
theorem rSet_n {o i v : Int} {fd : List Int × List Int} (f : hF s o i) (e : fA s o i = fd) (t : ¬ fTakes (fd.1.getD 1 0) (fd.1.getD 2 0) v) : rSet s o i v = (-1004, s) := by
  rw [← e] at t
  unfold rSet
  rw [cI_p f, cI_n t]
theorem yx_setField {o i v : Int} (hd : 16 ≤ d) (hv : zIL v) (x : XS h s) (k : ∀ g, XS g (rSet s o i v).2 → xcF h g → Q (some (vI (rSet s o i v).1)) g) : wpN G d M_X10_setField 0 (zar 0 [vR 1, vI o, vI i, vL v]) [] h Q := by
  refine vc_X10_setField_0 o i v h x.1.1 (by omega) (yx_hasF (by omega) x (fun g nf xg cf => qI_i ⟨xg.1.1, fun w2 => absurd rfl w2, fun _ => ?_⟩) (fun g f xg cf L => qI_i ⟨xg.1.1, fun _ => ?_, fun w2 => absurd w2 (by omega)⟩))
  · have e : rSet s o i v = (-1001, s) := cI_n nf
    rw [e] at k; exact k g xg cf
  · have ff := f
    obtain ⟨op, i0, i1⟩ := f
    obtain ⟨a1, a2, a3, a4, a5, a6, a7⟩ := yx_fd xg L op (i := i.toNat) (by omega)
    refine ⟨by omega, sp_X3_takes (zfds a7) xg.1.1 a2.1.1 (fun t => qI_i ⟨xg.1.1, fun _ => ?_, fun w2 => absurd w2 (by omega)⟩) (fun t => qI_i ⟨xg.1.1, fun w2 => absurd rfl w2, fun _ => ?_⟩)⟩
    · have er := rSet_y ff (fA_e a1) t
      rw [er] at k
      refine yx_keep2 (by omega) xg (fun h9 xm F9 => qV_i ⟨xm.1.1, ?_⟩)
      have cf9 : xcF h h9 := xcF_tr cf (xcF_h8 F9)
      have f9 : ∀ j, gI h9 (217 + 2 * i.toNat) j = gI g (217 + 2 * i.toNat) j := (F9 _ (by unfold hI8; omega)).1
      obtain ⟨s9, o9, d9⟩ := XM_8 xm
      obtain ⟨r9, b9⟩ := x9ok o9
      have n9 : gI h9 9 1 = gI g 9 1 := by
        have q1 := (XM_c xm).1
        have q2 := (XS_8 xg).2.2.1
        have q2 : ((sD s).1.length : Int) = gI g 9 1 := q2
        omega
      have fi := a2.1
      have fi9 : fIn h9 9 (217 + 2 * i.toNat) := by unfold fIn; rw [f9, f9, n9]; exact fi
      refine sp_X0_write (by omega) tT_9 (zfds a7) s9 r9 fi9 hv ?_
      rw [f9, f9, f9]
      have eb : (dv h9 8).1 = sB s := by rw [d9]; rfl
      obtain ⟨Fw, ow, dw⟩ := xwr (lit := gI g (217 + 2 * i.toNat) 3) (v := v) o9 eb fi.1 fi.2.1 (by rw [n9]; exact fi.2.2)
      have F3 : zF3 (dIn 8) h9 (rWr h9 9 (gI g (217 + 2 * i.toNat) 0) (gI g (217 + 2 * i.toNat) 1) (gI g (217 + 2 * i.toNat) 3) v (gI g (217 + 2 * i.toNat) 1).toNat) := fun b hb => Fw.f3 b (fun w => hb ⟨by omega, by omega⟩)
      have sw : zSh (rWr h9 9 (gI g (217 + 2 * i.toNat) 0) (gI g (217 + 2 * i.toNat) 1) (gI g (217 + 2 * i.toNat) 3) v (gI g (217 + 2 * i.toNat) 1).toNat) := Fw.Sh s9
      have xg2 : XM _ s (fdU (sB s) (xFl g i.toNat) v, sO s) := XM_d F3 sw ow (by rw [dw, d9]; rfl) xm
      refine qV_i ⟨sw, ?_⟩
      refine yx_chg2 (h0 := h) (a := aFds o.toNat) (by omega) xg2 (xcF_tr cf9 (xcF_d F3)) (fun g' n' s' xs cf' nn e eo et => ⟨fun _ => ?_, fun w => absurd w nn⟩) (fun g' xs cf' e => ⟨fun w => absurd rfl w, fun _ => ?_⟩)
      · rw [e] at k
        have op' : ovP (sD s') o := by
          refine ⟨op.1, op.2.1, ?_⟩
          have q := op.2.2
          unfold ovA at q ⊢
          rw [eo]
          exact q
        exact yx_fieldsOf (by omega) xs op' (fun g2 x2 cf2 => qI_i ⟨x2.1.1, k g2 x2 (xcF_tr cf' cf2)⟩)
      · rw [e] at k
        exact k g' xs cf'
    · have er := rSet_n ff (fA_e a1) t
      rw [er] at k
      exact k g xg cf
theorem ym_setField {o i v : Int} (hd : 8 ≤ d) (hv : zIL v) (x : MS h s) (k : ∀ g, MS g (rSet s o i v).2 → mcF h g → Q (some (vI (rSet s o i v).1)) g) : wpN G d M_X11_setField 0 (zar 0 [vR 343, vI o, vI i, vL v]) [] h Q := by
  refine vc_X11_setField_0 o i v h x.1.1 (by omega) (ym_hasF (by omega) x (fun g nf xg cf => qI_i ⟨xg.1.1, fun w2 => absurd rfl w2, fun _ => ?_⟩) (fun g f xg cf L => qI_i ⟨xg.1.1, fun _ => ?_, fun w2 => absurd w2 (by omega)⟩))
  · have e : rSet s o i v = (-1001, s) := cI_n nf
    rw [e] at k; exact k g xg cf
  · have ff := f
    obtain ⟨op, i0, i1⟩ := f
    obtain ⟨a1, a2, a3, a4, a5, a6, a7⟩ := ym_fd xg L op (i := i.toNat) (by omega)
    have ze : zar 0 [vR 343, vI i, vL v] = zar 0 [vR 343, vI ((i.toNat : Nat) : Int), vL v] := by rw [show ((i.toNat : Nat) : Int) = i by omega]
    rw [ze]
    refine sp_mfits (by omega) xg.1.1 a7 a2.1.1 (fun t => qI_i ⟨xg.1.1, fun _ => ?_, fun w2 => absurd w2 (by omega)⟩) (fun t => qI_i ⟨xg.1.1, fun w2 => absurd rfl w2, fun _ => ?_⟩)
    · have er := rSet_y ff (fA_e a1) t
      rw [er] at k
      refine ym_keep2 (by omega) xg (fun h9 xm F9 => qV_i ⟨xm.1.1, ?_⟩)
      have np : ∀ b j, b ≠ 347 → ¬ mCp 347 0 b j := fun b j w z => w z.1
      have cf9 : mcF h h9 := mcF_tr cf (mcF_4 F9 (fun b j hb => np _ _ (by omega)))
      have f9 : ∀ b j, b ≠ 347 → gI h9 b j = gI g b j := fun b j hb => F9.I _ _ (np _ _ hb)
      obtain ⟨s9, o9, d9⟩ := MM_8 xm
      have fi := a2.1
      have fi9 : mIn h9 i.toNat := by unfold mIn; rw [f9 _ _ (by omega), f9 _ _ (by omega), f9 _ _ (by omega)]; exact fi
      refine sp_puts s9 o9 a7 fi9 (by rw [f9 _ _ (by omega)]; exact a2.2.2) hv (fun h16 s16 F16 e16 => qV_i ⟨s16, ?_⟩)
      have eb : bM h9 = sB s := by unfold bM; rw [d9]; rfl
      obtain ⟨ow, dw⟩ := mput o9 eb fi9.1 fi9.2.1 fi9.2.2 F16 e16
      have xg2 : MM h16 s (fdU (sB s) (mFl g i.toNat) v, sO s) := MM_d F16 ow (by rw [dw, d9, f9 354 _ (by omega), f9 355 _ (by omega), f9 357 _ (by omega)]; rfl) xm
      refine ym_chg (h0 := h) (a := aFds o.toNat) (by omega) xg2 (mcF_tr cf9 (mcF_d F16)) (fun g' s' xs cf' e eo et => ⟨fun _ => ?_, fun w => absurd w (by omega)⟩) (fun g' xs cf' e => ⟨fun w => absurd rfl w, fun _ => ?_⟩)
      · rw [e] at k
        have op' : ovP (sD s') o := by
          refine ⟨op.1, op.2.1, ?_⟩
          have q := op.2.2
          unfold ovA at q ⊢
          rw [eo]
          exact q
        refine ym_lays (by omega) xs op' (fun g2 x2 cf2 L2 => qV_i ⟨x2.1.1, ?_⟩)
        rw [← mLd_len L2]
        exact k g2 x2 (mcF_tr cf' cf2)
      · rw [e] at k
        exact k g' xs cf'
    · have er := rSet_n ff (fA_e a1) t
      rw [er] at k
      exact k g xg cf
end SETF
