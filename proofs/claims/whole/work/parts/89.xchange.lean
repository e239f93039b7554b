/-! more changes of the program -/
theorem updR_ov {Ts : Nat → List (List Int)} : ∀ (n k : Nat) (v : zDc), dvOk v → (updR (rndD Ts) n k v).2.2 = v.2 ∧ (updR (rndD Ts) n k v).2.1.length = v.1.length ∧ dvOk (updR (rndD Ts) n k v).2
  | 0, k, v, h => ⟨rfl, rfl, h⟩
  | n + 1, k, v, h => by
    obtain ⟨a, b, c⟩ := rndO_ok (Ts := Ts) h 4
    have a : (rndD Ts v).1.2 = v.2 := a
    have b : (rndD Ts v).1.1.length = v.1.length := b
    have c : dvOk (rndD Ts v).1 := c
    rw [updR]
    split
    · obtain ⟨a', b', c'⟩ := updR_ov n (k + 1) (rndD Ts v).1 c
      exact ⟨by rw [a', a], by rw [b', b], c'⟩
    · exact ⟨a, b, c⟩
theorem rPutAll_3 {h : zHp} {a b c j : Nat} {i : Int} (hc : c ≠ a + 1) (k : Nat) : gI (rPutAll h a b i k) c j = gI h c j := rPutAll_ne hc k
section XCALL2
variable {G : zG} {d : Nat} {Q : Option zV → zHp → Prop} {h : zHp} {s : zSt}
/-- as yx_chg; it also tells that the overlays stay -/
theorem yx_chg2 {D : zDc} {a : zSt → Int} {P : Int → zHp → Prop} {h0 : zHp} (hd : 14 ≤ d) (x : XM h s D) (c0 : xcF h0 h)
    (kS : ∀ g n s', XS g s' → xcF h0 g → n ≠ -1005 → chR s D a = (a s', s') → (sD s').2 = D.2 → sTs s' = sTs s → P n g) (kU : ∀ g, XS g s → xcF h0 g → chR s D a = (-1005, s) → P (-1005) g) : wpN G d M_X10_endChange 0 (zar 0 [vR 1, vI (gI h 1 11)]) [] h (qI (fun z g => zSh g ∧ P z g)) := by
  have ef : gI h 1 11 = sFo s := x.1.2.2.2.2.2.1
  have dok : dvOk D := by rw [← (XM_8 x).2.2]; exact dvOk_8 (XM_8 x).2.1
  rw [ef]
  refine yx_end hd x (fun g n D' hh xs cf => qI_i ⟨xs.1.1, kS g n (cmt s D') xs (xcF_tr c0 cf) ?_ ?_ ?_ rfl⟩) (fun g hf hu xs cf => qI_i ⟨xs.1.1, kU g xs (xcF_tr c0 cf) ?_⟩)
  · rcases hh with ⟨_, b, _⟩ | ⟨_, _, b, _⟩ <;> omega
  · unfold chR
    rcases hh with ⟨a1, b1, c1⟩ | ⟨a1, b1, c1, d1⟩
    · rw [if_pos a1, c1]
    · rw [if_neg a1, b1, if_neg (by show ¬ n < 0; omega)]
  · show D'.2 = D.2
    rcases hh with ⟨a1, b1, c1⟩ | ⟨a1, b1, c1, d1⟩
    · rw [c1]
    · have := (updR_ov (Ts := sTs s) 8 0 D dok).1
      rw [b1] at this; exact this
  · unfold chR
    rw [if_neg hf, if_pos (by omega)]
theorem yx_layOut {o : Int} (hd : 11 ≤ d) (x : XS h s) (k0 : ¬ ovP (sD s) o → Q (some (vI 0)) h) (k1 : ∀ g, ovP (sD s) o → XS g s → xcF h g → xLd g (layD (sTs s) (sD s) o.toNat) → xCf h g → Q (some (vI 1)) g) : wpN G d M_X10_layOut 0 (zar 0 [vR 1, vI o]) [] h Q := by
  obtain ⟨h8, e8, _⟩ := XS_8 x
  exact sp_layOut hd x.1.1 h8 e8 x.1.2.2.2.2.2.2.1 k0 (fun g op s' C L => k1 g op (XS_C C x) (xcF_C C) L C)
theorem yx_fieldsOf {o : Int} (hd : 12 ≤ d) (x : XS h s) (op : ovP (sD s) o) (k : ∀ g, XS g s → xcF h g → Q (some (vI (aFds o.toNat s))) g) : wpN G d M_X10_fieldsOf 0 (zar 0 [vR 1, vI o]) [] h Q := by
  refine vc_X10_fieldsOf_0 o h x.1.1 (by omega) (yx_layOut (by omega) x (fun np => absurd op np) (fun g _ xg cf L _ => qI_i ⟨xg.1.1, fun w => absurd w (by omega), fun _ => ?_⟩))
  have e : aFds o.toNat s = gI g 215 1 := by
    unfold aFds
    rw [show (layD (sTs s) (sD s) o.toNat).1 = xFs g from congrArg Prod.fst L.1, xFs_len]
    have := L.2
    omega
  rw [← e]
  exact k g xg cf
theorem yx_paste {p : Int} (hd : 16 ≤ d) (x : XS h s) (k : ∀ g, XS g (rPst s p).2 → xcF h g → Q (some (vI (rPst s p).1)) g) : wpN G d M_X10_paste 0 (zar 0 [vR 1, vI p]) [] h Q := by
  have hS := x.1.1
  obtain ⟨h8, e8, l8, _⟩ := XS_8 x
  have l2 : gI h 9 1 ≤ 200 := h8.1.2
  have lc : ((sCl s).length : Int) = gI h 4 1 := by
    rw [← x.1.2.2.2.1.1]
    show ((lst (gI h 5) (gI h 4 1)).length : Int) = _
    rw [lst_len]; have := x.1.2.2.2.1.2.1; omega
  refine vc_X10_paste_0 p h hS (by omega) (sp_X10_isWithin hS (fun r1 q1 => qI_i ⟨hS, fun z => ⟨fun c0 => ⟨by omega, fun c => ?_, fun c => ?_⟩, fun c0 => ?_⟩, fun z => ?_⟩))
  · have er : rPst s p = chR s (insL (sB s) p.toNat (sCl s), (sO s).map (oOp p (sCl s).length)) aLen := by unfold rPst; rw [if_pos (by omega), if_neg (by omega), if_pos (by omega)]
    rw [er] at k
    refine yx_keep (by omega) x (fun h9 xm cf9 => qV_i ⟨xm.1.1, ?_⟩)
    obtain ⟨s9, o9, d9⟩ := XM_8 xm
    obtain ⟨c1, c2, c3, c4⟩ := XM_c xm
    have n9 : gI h9 9 1 = gI h 9 1 := by rw [← c1]; exact l8
    have cl9 : cX h9 = sCl s := xm.1.2.2.2.1.1
    have r4 := xm.1.2.2.2.1.2
    have lc9 : ((sCl s).length : Int) = gI h9 4 1 := by
      rw [← cl9]
      show ((lst (gI h9 5) (gI h9 4 1)).length : Int) = _
      rw [lst_len]; have := r4.1; omega
    refine sp_X2_openGap (p := p) (n := gI h9 4 1) (by omega) tT_8 s9 o9 (by omega) (by rw [show (8 + 1 : Nat) = 9 from rfl, n9]; omega) (by omega) (by rw [show (8 + 1 : Nat) = 9 from rfl, n9]; omega) (fun h13 s13 F13 g1 g2 g3 g4 g5 => qV_i ⟨s13, ?_⟩)
    have g1 : gI h13 9 1 = gI h9 9 1 + gI h9 4 1 := g1
    have nd : ∀ b, b < 9 ∨ 12 < b → ¬ dIn 8 b := fun b hb w => by obtain ⟨w1, w2⟩ := w; omega
    have k4 : ∀ j, gI h13 4 j = gI h9 4 j := fun j => F13.1 _ _ (nd _ (by omega))
    have k5 : ∀ j, gI h13 5 j = gI h9 5 j := fun j => F13.1 _ _ (nd _ (by omega))
    refine sp_X0_putAll (by omega) tT_9 tT_4 s13 ⟨by omega, by rw [show zlen (9 + 1) = 200 from zdocL zT_8]; omega⟩ (rOk_c k4 r4) (by omega) (by omega) (by omega) (qV_i ⟨rPutAll_Sh s13 _, ?_⟩)
    have pe : p = ((p.toNat : Nat) : Int) := by omega
    have FP := rPutAll_F (h := h13) (p := p) (gI h13 4 1).toNat
    have at10 : ∀ j, gI (rPutAll h13 9 4 p (gI h13 4 1).toNat) 10 j = if p.toNat ≤ j ∧ j < p.toNat + (gI h13 4 1).toNat then gI h13 5 (j - p.toNat) else gI h13 10 j := fun j => by
      have q := rPutAll_at (h := h13) (p := p.toNat) (n := (gI h13 4 1).toNat) (gI h13 4 1).toNat (Nat.le_refl _) (by rw [k4, g1]; omega) (by rw [k4]; omega) j
      rw [← pe] at q
      exact q
    have ne : ∀ b j, b ≠ 10 → gI (rPutAll h13 9 4 p (gI h13 4 1).toNat) b j = gI h13 b j := fun b j w => rPutAll_ne (by omega) _
    have F : zF3 (dIn 8) h9 (rPutAll h13 9 4 p (gI h13 4 1).toNat) := F13.f3.tr FP
    have sR : zSh (rPutAll h13 9 4 p (gI h13 4 1).toNat) := rPutAll_Sh s13 _
    have xg : XM (rPutAll h13 9 4 p (gI h13 4 1).toNat) s (insL (sB s) p.toNat (sCl s), (sO s).map (oOp p (sCl s).length)) := by
      have cb : ∀ j : Nat, (j : Int) < gI h9 4 1 → (sCl s)[j]? = some (gI h9 5 j) := fun j hj => by
        rw [← cl9]
        exact lst_get hj
      have byc := xm.1.2.1.2.1.1
      refine XM_d F sR ⟨?_, fun j hj => ?_, fun o ho => ?_⟩ (xdoc ?_ ?_ (fun o ho => ?_)) xm
      · show 0 ≤ gI (rPutAll h13 9 4 p (gI h13 4 1).toNat) 9 1 ∧ gI (rPutAll h13 9 4 p (gI h13 4 1).toNat) 9 1 ≤ 200
        rw [ne 9 1 (by omega), g1]; have : 0 ≤ gI h 9 1 := h8.1.1; omega
      · show 0 ≤ gI (rPutAll h13 9 4 p (gI h13 4 1).toNat) 10 j ∧ gI (rPutAll h13 9 4 p (gI h13 4 1).toNat) 10 j ≤ 255
        rw [at10 j]
        split
        · rename_i w
          rw [k4] at w
          rw [k5]
          exact byc _ (List.mem_of_getElem? (cb (j - p.toNat) (by omega)))
        · exact g4 j hj
      · show (gI (rPutAll h13 9 4 p (gI h13 4 1).toNat) 11 o = -1 ∧ gI (rPutAll h13 9 4 p (gI h13 4 1).toNat) 12 o = 0) ∨ ((0 ≤ gI (rPutAll h13 9 4 p (gI h13 4 1).toNat) 11 o ∧ gI (rPutAll h13 9 4 p (gI h13 4 1).toNat) 11 o ≤ 3) ∧ 0 ≤ gI (rPutAll h13 9 4 p (gI h13 4 1).toNat) 12 o ∧ gI (rPutAll h13 9 4 p (gI h13 4 1).toNat) 12 o ≤ gI (rPutAll h13 9 4 p (gI h13 4 1).toNat) 9 1)
        rw [ne 11 o (by omega), ne 12 o (by omega), ne 9 1 (by omega), g1]
        have q : (gI h9 11 o = -1 ∧ gI h9 12 o = 0) ∨ ((0 ≤ gI h9 11 o ∧ gI h9 11 o ≤ 3) ∧ 0 ≤ gI h9 12 o ∧ gI h9 12 o ≤ gI h9 9 1) := o9.2.2 o ho
        have e11 : gI h13 11 o = gI h9 11 o := (g5 o ho).1
        have e12 : gI h13 12 o = if p < gI h9 12 o then gI h9 12 o + gI h9 4 1 else gI h9 12 o := (g5 o ho).2
        rw [e11, e12]
        rcases q with ⟨q1', q2'⟩ | q
        · exact Or.inl ⟨q1', by rw [q2', if_neg (by omega)]⟩
        · refine Or.inr ⟨q.1, ?_⟩
          split <;> omega
      · have en : gI (rPutAll h13 9 4 p (gI h13 4 1).toNat) 9 1 = gI h9 9 1 + ((sCl s).length : Int) := by rw [ne 9 1 (by omega), g1, lc9]
        rw [en, show sB s = lst (gI h9 10) (gI h9 9 1) from c2]
        refine ins_lst o9.1.1 (by omega) (fun j hj => ?_) (fun j hj => ?_) (fun j hj hj2 => ?_)
        · rw [at10 j, if_neg (by omega)]; exact g2 j (by omega)
        · rw [at10, if_pos (by rw [k4]; omega), k5, cb j (by omega)]; congr 2; omega
        · rw [at10, if_neg (by rw [k4]; omega)]
          have := g3 j (by omega) (by rw [show (8 + 1 : Nat) = 9 from rfl]; omega)
          rw [show (8 + 2 : Nat) = 10 from rfl] at this
          rw [this]
          congr 2; omega
      · rw [List.length_map]; exact c4
      · rw [getD_map (oOp_0 (by omega)), show (sO s).getD o (-1, 0) = (gI h9 11 o, gI h9 12 o) from c3 o ho, ne 11 o (by omega), ne 12 o (by omega)]
        unfold oOp
        rw [lc9, show gI h13 11 o = gI h9 11 o from (g5 o ho).1, show gI h13 12 o = if p < gI h9 12 o then gI h9 12 o + gI h9 4 1 else gI h9 12 o from (g5 o ho).2]
    refine yx_chg (h0 := h) (a := aLen) (by omega) xg (xcF_tr cf9 (xcF_d F)) (fun g' n' s' xs cf nn e => ⟨fun _ => ?_, fun w => absurd w nn⟩) (fun g' xs cf e => ⟨fun w => absurd rfl w, fun _ => ?_⟩)
    · rw [e] at k
      have := (XS_8 xs).2.2.1
      rw [← this]
      exact k g' xs cf
    · rw [e] at k
      exact k g' xs cf
  · have e : rPst s p = (-1003, s) := by unfold rPst; rw [if_pos (by omega), if_neg (by omega), if_neg (by omega)]
    rw [e] at k; exact k h x xcF_rf
  · have e : rPst s p = (-1002, s) := by unfold rPst; rw [if_pos (by omega), if_pos (by omega)]
    rw [e] at k; exact k h x xcF_rf
  · have e : rPst s p = (-1001, s) := by unfold rPst; rw [if_neg (by omega)]
    rw [e] at k; exact k h x xcF_rf
theorem yx_pasteOver {p : Int} (hd : 16 ≤ d) (x : XS h s) (k : ∀ g, XS g (rPov s p).2 → xcF h g → Q (some (vI (rPov s p).1)) g) : wpN G d M_X10_pasteOver 0 (zar 0 [vR 1, vI p]) [] h Q := by
  have hS := x.1.1
  obtain ⟨h8, e8, l8, _⟩ := XS_8 x
  have l2 : gI h 9 1 ≤ 200 := h8.1.2
  have lcx : ∀ {g : zHp} {s' : zSt}, XK g s' → ((sCl s').length : Int) = gI g 4 1 := fun {g s'} xx => by
    rw [← xx.2.2.2.1.1]
    show ((lst (gI g 5) (gI g 4 1)).length : Int) = _
    rw [lst_len]; have := xx.2.2.2.1.2.1; omega
  have lc := lcx x.1
  refine vc_X10_pasteOver_0 p h hS (by omega) (sp_X10_isWithin hS (fun r1 q1 => qI_i ⟨hS, fun z => ⟨fun c0 => ⟨by omega, fun c => ?_, fun c => ?_⟩, fun c0 => ?_⟩, fun z => ?_⟩))
  · have er : rPov s p = chR s (ovwL (sB s) p.toNat (sCl s), sO s) (fun s' => (sCl s').length) := by unfold rPov; rw [if_pos (by omega), if_neg (by omega), if_pos (by omega)]
    rw [er] at k
    refine yx_keep (by omega) x (fun h9 xm cf9 => qV_i ⟨xm.1.1, ?_⟩)
    obtain ⟨s9, o9, d9⟩ := XM_8 xm
    obtain ⟨c1, c2, c3, c4⟩ := XM_c xm
    have n9 : gI h9 9 1 = gI h 9 1 := by rw [← c1]; exact l8
    have cl9 : cX h9 = sCl s := xm.1.2.2.2.1.1
    have r4 := xm.1.2.2.2.1.2
    have lc9 := lcx xm.1
    refine sp_X0_putAll (by omega) tT_9 tT_4 s9 (x9ok o9).1 r4 (by omega) (by omega) (by omega) (qV_i ⟨rPutAll_Sh s9 _, ?_⟩)
    have pe : p = ((p.toNat : Nat) : Int) := by omega
    have F := rPutAll_F (h := h9) (p := p) (gI h9 4 1).toNat
    have at10 : ∀ j, gI (rPutAll h9 9 4 p (gI h9 4 1).toNat) 10 j = if p.toNat ≤ j ∧ j < p.toNat + (gI h9 4 1).toNat then gI h9 5 (j - p.toNat) else gI h9 10 j := fun j => by
      have q := rPutAll_at (h := h9) (p := p.toNat) (n := (gI h9 4 1).toNat) (gI h9 4 1).toNat (Nat.le_refl _) (by omega) (by omega) j
      rw [← pe] at q
      exact q
    have ne : ∀ b j, b ≠ 10 → gI (rPutAll h9 9 4 p (gI h9 4 1).toNat) b j = gI h9 b j := fun b j w => rPutAll_ne (by omega) _
    have sR : zSh (rPutAll h9 9 4 p (gI h9 4 1).toNat) := rPutAll_Sh s9 _
    have cb : ∀ j : Nat, (j : Int) < gI h9 4 1 → (sCl s)[j]? = some (gI h9 5 j) := fun j hj => by
      rw [← cl9]
      exact lst_get hj
    have byc := xm.1.2.1.2.1.1
    have xg : XM (rPutAll h9 9 4 p (gI h9 4 1).toNat) s (ovwL (sB s) p.toNat (sCl s), sO s) := by
      refine XM_d F sR ⟨?_, fun j hj => ?_, fun o ho => ?_⟩ (xdoc ?_ c4 (fun o ho => ?_)) xm
      · show 0 ≤ gI (rPutAll h9 9 4 p (gI h9 4 1).toNat) 9 1 ∧ gI (rPutAll h9 9 4 p (gI h9 4 1).toNat) 9 1 ≤ 200
        rw [ne 9 1 (by omega)]; exact o9.1
      · show 0 ≤ gI (rPutAll h9 9 4 p (gI h9 4 1).toNat) 10 j ∧ gI (rPutAll h9 9 4 p (gI h9 4 1).toNat) 10 j ≤ 255
        rw [at10 j]
        split
        · exact byc _ (List.mem_of_getElem? (cb (j - p.toNat) (by omega)))
        · exact o9.2.1 j hj
      · show (gI (rPutAll h9 9 4 p (gI h9 4 1).toNat) 11 o = -1 ∧ gI (rPutAll h9 9 4 p (gI h9 4 1).toNat) 12 o = 0) ∨ ((0 ≤ gI (rPutAll h9 9 4 p (gI h9 4 1).toNat) 11 o ∧ gI (rPutAll h9 9 4 p (gI h9 4 1).toNat) 11 o ≤ 3) ∧ 0 ≤ gI (rPutAll h9 9 4 p (gI h9 4 1).toNat) 12 o ∧ gI (rPutAll h9 9 4 p (gI h9 4 1).toNat) 12 o ≤ gI (rPutAll h9 9 4 p (gI h9 4 1).toNat) 9 1)
        rw [ne 11 o (by omega), ne 12 o (by omega), ne 9 1 (by omega)]; exact o9.2.2 o ho
      · rw [ne 9 1 (by omega), show sB s = lst (gI h9 10) (gI h9 9 1) from c2]
        refine ovw_lst o9.1.1 (by omega) (fun j hj => ?_) (fun j hj => ?_) (fun j hj hj2 => ?_)
        · rw [at10 j, if_neg (by omega)]
        · rw [at10, if_pos (by omega), cb j (by omega)]; congr 2; omega
        · rw [at10, if_neg (by omega)]
      · rw [ne 11 o (by omega), ne 12 o (by omega)]; exact c3 o ho
    refine yx_chg (h0 := h) (a := fun s' => (sCl s').length) (by omega) xg (xcF_tr cf9 (xcF_d F)) (fun g' n' s' xs cf nn e => ⟨fun _ => ?_, fun w => absurd w nn⟩) (fun g' xs cf e => ⟨fun w => absurd rfl w, fun _ => ?_⟩)
    · rw [e] at k
      rw [← lcx xs.1]
      exact k g' xs cf
    · rw [e] at k
      exact k g' xs cf
  · have e : rPov s p = (-1003, s) := by unfold rPov; rw [if_pos (by omega), if_neg (by omega), if_neg (by omega)]
    rw [e] at k; exact k h x xcF_rf
  · have e : rPov s p = (-1002, s) := by unfold rPov; rw [if_pos (by omega), if_pos (by omega)]
    rw [e] at k; exact k h x xcF_rf
  · have e : rPov s p = (-1001, s) := by unfold rPov; rw [if_neg (by omega)]
    rw [e] at k; exact k h x xcF_rf
theorem yx_lay {o t f : Int} (hd : 16 ≤ d) (x : XS h s) (k : ∀ g, XS g (rLay s o t f).2 → xcF h g → Q (some (vI (rLay s o t f).1)) g) : wpN G d M_X10_lay 0 (zar 0 [vR 1, vI o, vI t, vI f]) [] h Q := by
  have hS := x.1.1
  obtain ⟨h8, e8, l8, _⟩ := XS_8 x
  have bad : ¬ ((0 ≤ o ∧ o ≤ 3) ∧ (0 ≤ t ∧ t ≤ 3) ∧ 0 ≤ f ∧ f ≤ (sB s).length) → Q (some (vI (-1001))) h := fun nb => by
    have e : rLay s o t f = (-1001, s) := by unfold rLay; rw [if_neg nb]
    rw [e] at k; exact k h x xcF_rf
  refine vc_X10_lay_0 o t f h hS (by omega) (sp_X10_isWithin hS (fun r1 q1 => qI_i ⟨hS, fun z => bad (fun w => by omega), fun z => sp_X10_isWithin hS (fun r2 q2 => qI_i ⟨hS, fun z2 => bad (fun w => by omega), fun z2 => sp_X10_isWithin hS (fun r3 q3 => qI_i ⟨hS, fun z3 => ?_, fun z3 => bad (fun w => by omega)⟩)⟩)⟩))
  have er : rLay s o t f = chR s (sB s, (sO s).set o.toNat (t, f)) (aFds o.toNat) := by unfold rLay; rw [if_pos (by omega)]
  rw [er] at k
  refine yx_keep (by omega) x (fun h17 xm cf17 => qV_i ⟨xm.1.1, ⟨by omega, by omega⟩, fun h20 e20 => ⟨⟨by omega, by omega⟩, fun h22 e22 => ?_⟩⟩)
  obtain ⟨s17, o17, d17⟩ := XM_8 xm
  obtain ⟨c1, c2, c3, c4⟩ := XM_c xm
  have n9 : gI h17 9 1 = gI h 9 1 := by rw [← c1]; exact l8
  have F : zF3 (dIn 8) h17 h22 := by rw [e22, e20]; exact (zF3.sI ⟨by omega, by omega⟩).tr (zF3.sI ⟨by omega, by omega⟩)
  have s22 : zSh h22 := by rw [e22, e20]; exact s17
  have ob : ∀ b j, b ≠ 11 → b ≠ 12 → gI h22 b j = gI h17 b j := fun b j w1 w2 => by rw [e22, gI_sI, if_neg (fun z => w2 z.1), e20, gI_sI, if_neg (fun z => w1 z.1)]
  have o11 : ∀ j, gI h22 11 j = if j = o.toNat then t else gI h17 11 j := fun j => by
    rw [e22, gI_sI, if_neg (by omega), e20, gI_sI]
    by_cases q : j = o.toNat
    · rw [if_pos ⟨rfl, q⟩, if_pos q]
    · rw [if_neg (fun w => q w.2), if_neg q]
  have o12 : ∀ j, gI h22 12 j = if j = o.toNat then f else gI h17 12 j := fun j => by
    rw [e22, gI_sI]
    by_cases q : j = o.toNat
    · rw [if_pos ⟨rfl, q⟩, if_pos q]
    · rw [if_neg (fun w => q w.2), if_neg q, e20, gI_sI, if_neg (by omega)]
  have xg : XM h22 s (sB s, (sO s).set o.toNat (t, f)) := by
    refine XM_d F s22 ⟨?_, fun j hj => ?_, fun i hi => ?_⟩ (xdoc ?_ ?_ (fun i hi => ?_)) xm
    · show 0 ≤ gI h22 9 1 ∧ gI h22 9 1 ≤ 200
      rw [ob 9 1 (by omega) (by omega)]; exact o17.1
    · show 0 ≤ gI h22 10 j ∧ gI h22 10 j ≤ 255
      rw [ob 10 j (by omega) (by omega)]; exact o17.2.1 j hj
    · show (gI h22 11 i = -1 ∧ gI h22 12 i = 0) ∨ ((0 ≤ gI h22 11 i ∧ gI h22 11 i ≤ 3) ∧ 0 ≤ gI h22 12 i ∧ gI h22 12 i ≤ gI h22 9 1)
      rw [o11, o12, ob 9 1 (by omega) (by omega)]
      by_cases q : i = o.toNat
      · rw [if_pos q, if_pos q]; exact Or.inr (by omega)
      · rw [if_neg q, if_neg q]; exact o17.2.2 i hi
    · rw [ob 9 1 (by omega) (by omega), show sB s = lst (gI h17 10) (gI h17 9 1) from c2]
      exact lst_eq rfl (fun j _ => ob 10 j (by omega) (by omega))
    · rw [List.length_set]; exact c4
    · have c4' : (sO s).length = 4 := c4
      rw [getD_set (l := sO s) c4' hi, o11, o12]
      by_cases q : i = o.toNat
      · rw [if_pos q, if_pos q, if_pos q]
      · rw [if_neg q, if_neg q, if_neg q]; exact c3 i hi
  refine yx_chg2 (h0 := h) (a := aFds o.toNat) (by omega) xg (xcF_tr cf17 (xcF_d F)) (fun g' n' s' xs cf nn e eo et => ⟨fun _ => ?_, fun w => absurd w nn⟩) (fun g' xs cf e => ⟨fun w => absurd rfl w, fun _ => ?_⟩)
  · rw [e] at k
    have op : ovP (sD s') o := by
      refine ⟨by omega, by omega, ?_⟩
      unfold ovA
      rw [eo]
      show (((sO s).set o.toNat (t, f)).getD o.toNat (-1, 0)).1 ≠ -1
      have c4' : (sO s).length = 4 := c4
      have h4 : o.toNat < 4 := by omega
      rw [getD_set (l := sO s) c4' h4, if_pos rfl]
      show t ≠ -1
      omega
    exact yx_fieldsOf (by omega) xs op (fun g2 x2 cf2 => qI_i ⟨x2.1.1, k g2 x2 (xcF_tr cf cf2)⟩)
  · rw [e] at k
    exact k g' xs cf
theorem yx_remove {o : Int} (hd : 16 ≤ d) (x : XS h s) (k : ∀ g, XS g (rRem s o).2 → xcF h g → Q (some (vI (rRem s o).1)) g) : wpN G d M_X10_remove 0 (zar 0 [vR 1, vI o]) [] h Q := by
  have hS := x.1.1
  obtain ⟨h8, e8, l8, b8, ov8, _⟩ := XS_8 x
  have hasP : dHas h 8 o = 1 ↔ ovP (sD s) o := by
    unfold dHas ovP
    constructor
    · intro e
      split at e
      · rename_i w
        refine ⟨w.1, w.2.1, ?_⟩
        rw [show ovA (sD s) o.toNat = (gI h 11 o.toNat, gI h 12 o.toNat) from ov8 _ (by omega)]
        exact w.2.2
      · omega
    · intro w
      have w3 := w.2.2
      rw [show ovA (sD s) o.toNat = (gI h 11 o.toNat, gI h 12 o.toNat) from ov8 _ (by have := w.1; have := w.2.1; omega)] at w3
      rw [if_pos ⟨w.1, w.2.1, w3⟩]
  have h01 := dHas_01 h 8 o
  refine vc_X10_remove_0 o h hS (by omega) (sp_X2_isPresent tT_8 hS (fun r er => qI_i ⟨hS, fun z => ?_, fun z => ?_⟩))
  · have op : ovP (sD s) o := hasP.mp (by omega)
    have er2 : rRem s o = chR s (sB s, (sO s).set o.toNat (-1, 0)) (fun _ => (ovA (sD s) o.toNat).2) := by unfold rRem; rw [if_pos op]
    have ho : 0 ≤ o ∧ o < 4 := ⟨op.1, op.2.1⟩
    rw [er2] at k
    refine ⟨ho, fun x6 e6 => ?_⟩
    have e6' : x6 = (ovA (sD s) o.toNat).2 := by rw [e6, show ovA (sD s) o.toNat = (gI h 11 o.toNat, gI h 12 o.toNat) from ov8 _ (by omega)]
    refine yx_keep (by omega) x (fun h9 xm cf9 => qV_i ⟨xm.1.1, ?_⟩)
    obtain ⟨s9, o9, d9⟩ := XM_8 xm
    obtain ⟨c1, c2, c3, c4⟩ := XM_c xm
    have hp9 : dHas h9 8 o = 1 := by
      unfold dHas
      have w3 := op.2.2
      rw [show ovA (sD s) o.toNat = (gI h9 11 o.toNat, gI h9 12 o.toNat) from c3 _ (by omega)] at w3
      rw [if_pos ⟨op.1, op.2.1, w3⟩]
    refine sp_X2_drop (by omega) tT_8 s9 hp9 (qV_i ⟨s9, ?_⟩)
    generalize eg : sI (sI h9 (8 + 3) o.toNat (-1)) (8 + 4) o.toNat 0 = g
    have F : zF3 (dIn 8) h9 g := by rw [← eg]; exact (zF3.sI ⟨by omega, by omega⟩).tr (zF3.sI ⟨by omega, by omega⟩)
    have sg : zSh g := by rw [← eg]; exact s9
    have ob : ∀ b j, b ≠ 11 → b ≠ 12 → gI g b j = gI h9 b j := fun b j w1 w2 => by rw [← eg, gI_sI, if_neg (fun z => w2 z.1), gI_sI, if_neg (fun z => w1 z.1)]
    have o11 : ∀ j, gI g 11 j = if j = o.toNat then -1 else gI h9 11 j := fun j => by
      rw [← eg, gI_sI, if_neg (by omega), gI_sI]
      by_cases q : j = o.toNat
      · rw [if_pos ⟨rfl, q⟩, if_pos q]
      · rw [if_neg (fun w => q w.2), if_neg q]
    have o12 : ∀ j, gI g 12 j = if j = o.toNat then 0 else gI h9 12 j := fun j => by
      rw [← eg, gI_sI]
      by_cases q : j = o.toNat
      · rw [if_pos ⟨rfl, q⟩, if_pos q]
      · rw [if_neg (fun w => q w.2), if_neg q, gI_sI, if_neg (by omega)]
    have xg : XM g s (sB s, (sO s).set o.toNat (-1, 0)) := by
      refine XM_d F sg ⟨?_, fun j hj => ?_, fun i hi => ?_⟩ (xdoc ?_ ?_ (fun i hi => ?_)) xm
      · show 0 ≤ gI g 9 1 ∧ gI g 9 1 ≤ 200
        rw [ob 9 1 (by omega) (by omega)]; exact o9.1
      · show 0 ≤ gI g 10 j ∧ gI g 10 j ≤ 255
        rw [ob 10 j (by omega) (by omega)]; exact o9.2.1 j hj
      · show (gI g 11 i = -1 ∧ gI g 12 i = 0) ∨ ((0 ≤ gI g 11 i ∧ gI g 11 i ≤ 3) ∧ 0 ≤ gI g 12 i ∧ gI g 12 i ≤ gI g 9 1)
        rw [o11, o12, ob 9 1 (by omega) (by omega)]
        by_cases q : i = o.toNat
        · rw [if_pos q, if_pos q]; exact Or.inl ⟨rfl, rfl⟩
        · rw [if_neg q, if_neg q]; exact o9.2.2 i hi
      · rw [ob 9 1 (by omega) (by omega), show sB s = lst (gI h9 10) (gI h9 9 1) from c2]
        exact lst_eq rfl (fun j _ => ob 10 j (by omega) (by omega))
      · rw [List.length_set]; exact c4
      · have c4' : (sO s).length = 4 := c4
        rw [getD_set (l := sO s) c4' hi, o11, o12]
        by_cases q : i = o.toNat
        · rw [if_pos q, if_pos q, if_pos q]
        · rw [if_neg q, if_neg q, if_neg q]; exact c3 i hi
    refine yx_chg (h0 := h) (a := fun _ => (ovA (sD s) o.toNat).2) (by omega) xg (xcF_tr cf9 (xcF_d F)) (fun g' n' s' xs cf nn e => ⟨fun _ => ?_, fun w => absurd w nn⟩) (fun g' xs cf e => ⟨fun w => absurd rfl w, fun _ => ?_⟩)
    · rw [e] at k
      rw [e6']
      exact k g' xs cf
    · rw [e] at k
      exact k g' xs cf
  · have np : ¬ ovP (sD s) o := fun w => by have := hasP.mpr w; omega
    have e : rRem s o = (-1001, s) := by unfold rRem; rw [if_neg np]
    rw [e] at k; exact k h x xcF_rf
theorem yx_refresh (hd : 16 ≤ d) (x : XS h s) (k : ∀ g, XS g (rRef s).2 → xcF h g → Q (some (vI (rRef s).1)) g) : wpN G d M_X10_refresh 0 (zar 0 [vR 1]) [] h Q := by
  refine vc_X10_refresh_0 h x.1.1 (by omega) (yx_keep (by omega) x (fun h2 xm cf2 => qV_i ⟨xm.1.1, ?_⟩))
  refine yx_end (by omega) xm (fun g n D' hh xs cf => qI_i ⟨xs.1.1, ?_⟩) (fun g hf hu xs cf => qI_i ⟨xs.1.1, ?_⟩)
  · rcases hh with ⟨a1, _⟩ | ⟨_, b1, c1, d1⟩
    · omega
    · have e : rRef s = (n, cmt s D') := by unfold rRef; rw [b1, if_neg (by show ¬ n < 0; omega)]
      rw [e] at k
      exact k g xs (xcF_tr cf2 cf)
  · have e : rRef s = (-1005, s) := by unfold rRef; rw [if_pos (by omega)]
    rw [e] at k
    exact k g xs (xcF_tr cf2 cf)
end XCALL2
