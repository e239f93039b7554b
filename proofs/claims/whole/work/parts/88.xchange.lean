/-! the changes of the program -/
def sB (s : zSt) : List Int := (sD s).1
def sO (s : zSt) : List (Int × Int) := (sD s).2
def aLen (s : zSt) : Int := (sB s).length
def aFds (o : Nat) (s : zSt) : Int := (layD (sTs s) (sD s) o).1.length
def rIns (s : zSt) (p v n : Int) : Int × zSt := if (0 ≤ p ∧ p ≤ (sB s).length) ∧ (0 ≤ v ∧ v ≤ 255) ∧ (1 ≤ n ∧ n ≤ 64) then (if (sB s).length + n ≤ 200 then chR s (insL (sB s) p.toNat (List.replicate n.toNat v), (sO s).map (oOp p n)) aLen else (-1003, s)) else (-1001, s)
def rDel (s : zSt) (p n : Int) : Int × zSt := if 0 ≤ p ∧ 1 ≤ n ∧ p + n ≤ (sB s).length then chR s (delL (sB s) p.toNat n.toNat, (sO s).map (oCl p n)) aLen else (-1001, s)
def rOvw (s : zSt) (p v : Int) : Int × zSt := if (0 ≤ p ∧ p < (sB s).length) ∧ (0 ≤ v ∧ v ≤ 255) then chR s (ovwL (sB s) p.toNat [v], sO s) (fun _ => tg (sB s) p.toNat) else (-1001, s)
def rPst (s : zSt) (p : Int) : Int × zSt := if 0 ≤ p ∧ p ≤ (sB s).length then (if (sCl s).length = 0 then (-1002, s) else if (sB s).length + (sCl s).length ≤ 200 then chR s (insL (sB s) p.toNat (sCl s), (sO s).map (oOp p (sCl s).length)) aLen else (-1003, s)) else (-1001, s)
def rPov (s : zSt) (p : Int) : Int × zSt := if 0 ≤ p ∧ p ≤ (sB s).length then (if (sCl s).length = 0 then (-1002, s) else if p + (sCl s).length ≤ (sB s).length then chR s (ovwL (sB s) p.toNat (sCl s), sO s) (fun s' => (sCl s').length) else (-1003, s)) else (-1001, s)
def rLay (s : zSt) (o t f : Int) : Int × zSt := if (0 ≤ o ∧ o ≤ 3) ∧ (0 ≤ t ∧ t ≤ 3) ∧ 0 ≤ f ∧ f ≤ (sB s).length then chR s (sB s, (sO s).set o.toNat (t, f)) (aFds o.toNat) else (-1001, s)
noncomputable def rRem (s : zSt) (o : Int) : Int × zSt := @ite _ (ovP (sD s) o) (Classical.propDecidable _) (chR s (sB s, (sO s).set o.toNat (-1, 0)) (fun _ => (ovA (sD s) o.toNat).2)) (-1001, s)
def rRef (s : zSt) : Int × zSt := if (updR (rndD (sTs s)) 8 0 (sD s)).1 < 0 then (-1005, s) else ((updR (rndD (sTs s)) 8 0 (sD s)).1, cmt s (updR (rndD (sTs s)) 8 0 (sD s)).2)
section XCALL
variable {G : zG} {d : Nat} {Q : Option zV → zHp → Prop} {h : zHp} {s : zSt}
theorem XS_8 (x : XS h s) : dOk h 8 ∧ dv h 8 = sD s ∧ ((sB s).length : Int) = gI h 9 1 ∧ sB s = lst (gI h 10) (gI h 9 1) ∧ (∀ o, o < 4 → (sO s).getD o (-1, 0) = (gI h 11 o, gI h 12 o)) ∧ (sO s).length = 4 := by
  obtain ⟨_, ho, e, _⟩ := x
  have h8 := ho.2.2.1
  have l := dv8_len h8
  rw [e] at l
  refine ⟨h8, e, l, ?_, fun o h4 => ?_, ?_⟩
  · show (sD s).1 = _
    rw [← e]; rfl
  · show (sD s).2.getD o (-1, 0) = _
    rw [← e]; exact ovA_8 h4
  · show (sD s).2.length = 4
    rw [← e]; rfl
/-- the document within a change -/
theorem XM_8 {D : zDc} (x : XM h s D) : zSh h ∧ dOk h 8 ∧ dv h 8 = D := ⟨x.1.1, x.2.1.1.2.2.1, x.2.1.2.1⟩
theorem XM_c {D : zDc} (x : XM h s D) : ((D.1.length : Int) = gI h 9 1) ∧ D.1 = lst (gI h 10) (gI h 9 1) ∧ (∀ o, o < 4 → D.2.getD o (-1, 0) = (gI h 11 o, gI h 12 o)) ∧ D.2.length = 4 := by
  obtain ⟨_, h8, e⟩ := XM_8 x
  have l := dv8_len h8
  rw [e] at l
  refine ⟨l, by rw [← e]; rfl, fun o h4 => by rw [← e]; exact ovA_8 h4, by rw [← e]; rfl⟩
theorem yx_insert {p v n : Int} (hd : 16 ≤ d) (x : XS h s) (k : ∀ g, XS g (rIns s p v n).2 → xcF h g → Q (some (vI (rIns s p v n).1)) g) : wpN G d M_X10_insert 0 (zar 0 [vR 1, vI p, vI v, vI n]) [] h Q := by
  have hS := x.1.1
  obtain ⟨h8, e8, l8, _⟩ := XS_8 x
  have l2 : gI h 9 1 ≤ 200 := h8.1.2
  have bad : ¬ ((0 ≤ p ∧ p ≤ (sB s).length) ∧ (0 ≤ v ∧ v ≤ 255) ∧ (1 ≤ n ∧ n ≤ 64)) → Q (some (vI (-1001))) h := fun nb => by
    have e : rIns s p v n = (-1001, s) := by unfold rIns; rw [if_neg nb]
    rw [e] at k; exact k h x xcF_rf
  refine vc_X10_insert_0 p v n h hS (by omega) (fun y1 y2 y3 y5 g => y1 = p ∧ y2 = v ∧ y3 = n ∧ y5 = ((0 : Nat) : Int) ∧ wpN G d M_X10_insert 83 [(0, vR 1), (1, vI p), (2, vI v), (3, vI n), (4, vR 9), (5, vI ((0 : Nat) : Int))] [] g Q) ?_ (sp_X10_isWithin hS (fun r1 q1 => qI_i ⟨hS, fun z => bad (fun w => by omega), fun z => sp_X10_isWithin hS (fun r2 q2 => qI_i ⟨hS, fun z2 => bad (fun w => by omega), fun z2 => sp_X10_isWithin hS (fun r3 q3 => qI_i ⟨hS, fun z3 => ⟨by omega, fun c => ?_, fun c => ?_⟩, fun z3 => bad (fun w => by omega)⟩)⟩)⟩))
  · rintro _ _ _ _ _ ⟨z0, z1, z2, z3, z4⟩
    rw [z0, z1, z2, z3]
    exact z4
  · refine yx_keep (by omega) x (fun h18 xm cf18 => qV_i ⟨xm.1.1, ?_⟩)
    obtain ⟨s18, o18, d18⟩ := XM_8 xm
    obtain ⟨c1, c2, c3, c4⟩ := XM_c xm
    have n9 : gI h18 9 1 = gI h 9 1 := by rw [← c1]; exact l8
    refine sp_X2_openGap (p := p) (n := n) (by omega) tT_8 s18 o18 (by omega) (by rw [show (8 + 1 : Nat) = 9 from rfl, n9]; omega) (by omega) (by rw [show (8 + 1 : Nat) = 9 from rfl, n9]; omega) (fun h22 s22 F22 g1 g2 g3 g4 g5 => qV_i ⟨s22, fun _ => ⟨rfl, rfl, rfl, rfl, ?_⟩⟩)
    have F22' : zF3 (dIn 8) h18 h22 := F22.f3
    have g1 : gI h22 9 1 = gI h18 9 1 + n := g1
    -- the bytes put one by one
    have loop : ∀ (m i : Nat) (g : zHp), i + m = n.toNat → zSh g → zF3 (dIn 8) h18 g → (∀ b j, b ≠ 10 → gI g b j = gI h22 b j) → (∀ j : Nat, gI g 10 j = if p.toNat ≤ j ∧ j < p.toNat + i then v else gI h22 10 j) → wpN G d M_X10_insert 83 [(0, vR 1), (1, vI p), (2, vI v), (3, vI n), (4, vR 9), (5, vI (i : Int))] [] g Q := by
      intro m
      induction m with
      | zero =>
        intro i g hi sg F ob o10
        have ob' : ∀ b j, b ≠ 10 → gI g b j = gI h22 b j := ob
        have xg : XM g s (insL (sB s) p.toNat (List.replicate n.toNat v), (sO s).map (oOp p n)) := by
          refine XM_d F sg ⟨?_, fun j hj => ?_, fun o ho => ?_⟩ (xdoc ?_ ?_ (fun o ho => ?_)) xm
          · show 0 ≤ gI g 9 1 ∧ gI g 9 1 ≤ 200
            rw [ob 9 1 (by omega), g1, n9]; have : 0 ≤ gI h 9 1 := h8.1.1; omega
          · show 0 ≤ gI g 10 j ∧ gI g 10 j ≤ 255
            rw [o10 j]
            split
            · omega
            · exact g4 j hj
          · show (gI g 11 o = -1 ∧ gI g 12 o = 0) ∨ ((0 ≤ gI g 11 o ∧ gI g 11 o ≤ 3) ∧ 0 ≤ gI g 12 o ∧ gI g 12 o ≤ gI g 9 1)
            rw [ob 11 o (by omega), ob 12 o (by omega), ob 9 1 (by omega), g1, (g5 o ho).1, (g5 o ho).2]
            have q := o18.2.2 o ho
            have q : (gI h18 11 o = -1 ∧ gI h18 12 o = 0) ∨ ((0 ≤ gI h18 11 o ∧ gI h18 11 o ≤ 3) ∧ 0 ≤ gI h18 12 o ∧ gI h18 12 o ≤ gI h18 9 1) := q
            rcases q with ⟨q1', q2'⟩ | q
            · refine Or.inl ⟨q1', ?_⟩
              show (if p < gI h18 12 o then gI h18 12 o + n else gI h18 12 o) = 0
              rw [q2', if_neg (by omega)]
            · refine Or.inr ⟨q.1, ?_⟩
              show 0 ≤ (if p < gI h18 12 o then gI h18 12 o + n else gI h18 12 o) ∧ (if p < gI h18 12 o then gI h18 12 o + n else gI h18 12 o) ≤ gI h18 9 1 + n
              split <;> omega
          · have en : gI g 9 1 = gI h18 9 1 + ((List.replicate n.toNat v).length : Int) := by rw [ob 9 1 (by omega), g1, List.length_replicate]; omega
            rw [en, show sB s = lst (gI h18 10) (gI h18 9 1) from c2]
            refine ins_lst (by rw [n9]; exact h8.1.1) (by omega) (fun j hj => ?_) (fun j hj => ?_) (fun j hj hj2 => ?_)
            · rw [o10 j, if_neg (by omega)]; exact g2 j (by omega)
            · rw [List.length_replicate] at hj
              rw [o10, if_pos (by omega), List.getElem?_replicate_of_lt hj]
            · rw [List.length_replicate] at hj hj2 ⊢
              rw [o10, if_neg (by omega)]
              exact g3 j (by omega) (by rw [show (8 + 1 : Nat) = 9 from rfl]; omega)
          · rw [List.length_map]; exact c4
          · rw [getD_map (oOp_0 (by omega)), show (sO s).getD o (-1, 0) = (gI h18 11 o, gI h18 12 o) from c3 o ho, ob 11 o (by omega), ob 12 o (by omega)]
            unfold oOp
            rw [(g5 o ho).1, (g5 o ho).2]
        refine vc_X10_insert_83 p v n i g sg (by omega) (fun _ _ _ _ _ => False) (fun _ _ _ _ _ w => w.elim) ⟨fun _ => ?_, fun w => by omega⟩
        have er : rIns s p v n = chR s (insL (sB s) p.toNat (List.replicate n.toNat v), (sO s).map (oOp p n)) aLen := by unfold rIns; rw [if_pos (by omega), if_pos (by omega)]
        rw [er] at k
        refine yx_chg (h0 := h) (a := aLen) (by omega) xg (xcF_tr cf18 (xcF_d F)) (fun g' n' s' xs cf nn e => ⟨fun _ => ?_, fun w => absurd w nn⟩) (fun g' xs cf e => ⟨fun w => absurd rfl w, fun _ => ?_⟩)
        · rw [e] at k
          have := (XS_8 xs).2.2.1
          rw [← this]
          exact k g' xs cf
        · rw [e] at k
          exact k g' xs cf
      | succ m ih =>
        intro i g hi sg F ob o10
        have z9 : gI g 9 1 = gI h18 9 1 + n := by rw [ob 9 1 (by omega), g1]
        refine vc_X10_insert_83 p v n i g sg (by omega) (fun y1 y2 y3 y5 g' => y1 = p ∧ y2 = v ∧ y3 = n ∧ y5 = ((i + 1 : Nat) : Int) ∧ wpN G d M_X10_insert 83 [(0, vR 1), (1, vI p), (2, vI v), (3, vI n), (4, vR 9), (5, vI ((i + 1 : Nat) : Int))] [] g' Q) ?_ ⟨fun w => by omega, fun w => ⟨by omega, sp_X0_put tT_9 sg (by rw [show zlen (9 + 1) = 200 from zdocL zT_8]; omega) (fun g' e' => qV_i ⟨by rw [e']; exact rPut_Sh sg, by omega, fun x11 e11 _ => ⟨rfl, rfl, rfl, by omega, ?_⟩⟩)⟩⟩
        · rintro _ _ _ _ _ ⟨z0, z1, z2, z3, z4⟩
          rw [z0, z1, z2, z3]
          exact z4
        · have e2 : g' = sI g 10 (p.toNat + i) v := by
            rw [e', rPut, if_pos (by omega), show (p + (i : Int)).toNat = p.toNat + i by omega]
          have F' : zF3 (dIn 8) g g' := by rw [e2]; exact zF3.sI ⟨by omega, by omega⟩
          refine ih (i + 1) g' (by omega) (by rw [e']; exact rPut_Sh sg) (F.tr F') (fun b j hb => by rw [e2, gI_sI, if_neg (fun w => hb w.1), ob b j hb]) (fun j => ?_)
          rw [e2, gI_sI]
          by_cases q : j = p.toNat + i
          · rw [if_pos ⟨rfl, q⟩, if_pos (by omega)]
          · rw [if_neg (fun w => q w.2), o10 j]
            by_cases q2 : p.toNat ≤ j ∧ j < p.toNat + i
            · rw [if_pos q2, if_pos (by omega)]
            · rw [if_neg q2, if_neg (by omega)]
    exact loop n.toNat 0 h22 (by omega) s22 F22' (fun _ _ _ => rfl) (fun j => by rw [if_neg (by omega)])
  · have e : rIns s p v n = (-1003, s) := by unfold rIns; rw [if_pos (by omega), if_neg (by omega)]
    rw [e] at k; exact k h x xcF_rf
theorem yx_delete {p n : Int} (hd : 16 ≤ d) (x : XS h s) (hn : -2147483648 ≤ n ∧ n ≤ 2147483647) (k : ∀ g, XS g (rDel s p n).2 → xcF h g → Q (some (vI (rDel s p n).1)) g) : wpN G d M_X10_delete 0 (zar 0 [vR 1, vI p, vI n]) [] h Q := by
  have hS := x.1.1
  obtain ⟨h8, e8, l8, _⟩ := XS_8 x
  have l2 : gI h 9 1 ≤ 200 := h8.1.2
  have bad : ¬ (0 ≤ p ∧ 1 ≤ n ∧ p + n ≤ (sB s).length) → Q (some (vI (-1001))) h := fun nb => by
    have e : rDel s p n = (-1001, s) := by unfold rDel; rw [if_neg nb]
    rw [e] at k; exact k h x xcF_rf
  refine vc_X10_delete_0 p n h hS (by omega) (sp_X0_has tT_9 hS (fun r1 q1 => qI_i ⟨hS, fun z => bad (fun w => ?_), fun z => ?_⟩))
  · rw [q1] at z
    unfold rHas at z
    rw [if_pos (by omega)] at z
    omega
  · have hp : 0 ≤ p ∧ p < gI h 9 1 := by
      rw [q1] at z
      unfold rHas at z
      split at z
      · rename_i w; exact w
      · exact absurd rfl z
    refine ⟨by omega, sp_X10_isWithin hS (fun r2 q2 => qI_i ⟨hS, fun z2 => ?_, fun z2 => bad (fun w => by omega)⟩)⟩
    refine yx_keep (by omega) x (fun h12 xm cf12 => qV_i ⟨xm.1.1, ?_⟩)
    obtain ⟨s12, o12, d12⟩ := XM_8 xm
    obtain ⟨c1, c2, c3, c4⟩ := XM_c xm
    have n9 : gI h12 9 1 = gI h 9 1 := by rw [← c1]; exact l8
    refine sp_X2_closeGap (p := p) (n := n) (by omega) tT_8 s12 o12 hp.1 (by omega) (by rw [show (8 + 1 : Nat) = 9 from rfl, n9]; omega) (fun h16 s16 F16 g1 g2 g3 g4 g5 => qV_i ⟨s16, ?_⟩)
    have g1 : gI h16 9 1 = gI h12 9 1 - n := g1
    have xg : XM h16 s (delL (sB s) p.toNat n.toNat, (sO s).map (oCl p n)) := by
      refine XM_d F16.f3 s16 ⟨?_, fun j hj => g4 j hj, fun o ho => ?_⟩ (xdoc ?_ ?_ (fun o ho => ?_)) xm
      · show 0 ≤ gI h16 9 1 ∧ gI h16 9 1 ≤ 200
        omega
      · show (gI h16 11 o = -1 ∧ gI h16 12 o = 0) ∨ ((0 ≤ gI h16 11 o ∧ gI h16 11 o ≤ 3) ∧ 0 ≤ gI h16 12 o ∧ gI h16 12 o ≤ gI h16 9 1)
        rw [g1]
        have q : (gI h12 11 o = -1 ∧ gI h12 12 o = 0) ∨ ((0 ≤ gI h12 11 o ∧ gI h12 11 o ≤ 3) ∧ 0 ≤ gI h12 12 o ∧ gI h12 12 o ≤ gI h12 9 1) := o12.2.2 o ho
        have e11 : gI h16 11 o = gI h12 11 o := (g5 o ho).1
        have e12 : gI h16 12 o = if p < gI h12 12 o then (if gI h12 12 o - n < p then p else gI h12 12 o - n) else gI h12 12 o := (g5 o ho).2
        rw [e11, e12]
        rcases q with ⟨q1', q2'⟩ | q
        · refine Or.inl ⟨q1', ?_⟩
          rw [q2', if_neg (by omega)]
        · refine Or.inr ⟨q.1, ?_⟩
          split
          · split <;> omega
          · omega
      · have en : gI h16 9 1 = gI h12 9 1 - ((n.toNat : Nat) : Int) := by rw [g1]; omega
        rw [en, show sB s = lst (gI h12 10) (gI h12 9 1) from c2]
        refine del_lst (by rw [n9]; exact h8.1.1) (by omega) (fun j hj => g2 j (by omega)) (fun j hj hj2 => g3 j (by omega) (by rw [show (8 + 1 : Nat) = 9 from rfl]; omega))
      · rw [List.length_map]; exact c4
      · rw [getD_map (oCl_0 hp.1), show (sO s).getD o (-1, 0) = (gI h12 11 o, gI h12 12 o) from c3 o ho]
        unfold oCl
        rw [show gI h16 11 o = gI h12 11 o from (g5 o ho).1, show gI h16 12 o = if p < gI h12 12 o then (if gI h12 12 o - n < p then p else gI h12 12 o - n) else gI h12 12 o from (g5 o ho).2]
    have er : rDel s p n = chR s (delL (sB s) p.toNat n.toNat, (sO s).map (oCl p n)) aLen := by unfold rDel; rw [if_pos (by omega)]
    rw [er] at k
    refine yx_chg (h0 := h) (a := aLen) (by omega) xg (xcF_tr cf12 (xcF_d F16.f3)) (fun g' n' s' xs cf nn e => ⟨fun _ => ?_, fun w => absurd w nn⟩) (fun g' xs cf e => ⟨fun w => absurd rfl w, fun _ => ?_⟩)
    · rw [e] at k
      have := (XS_8 xs).2.2.1
      rw [← this]
      exact k g' xs cf
    · rw [e] at k
      exact k g' xs cf
theorem yx_overwrite {p v : Int} (hd : 16 ≤ d) (x : XS h s) (k : ∀ g, XS g (rOvw s p v).2 → xcF h g → Q (some (vI (rOvw s p v).1)) g) : wpN G d M_X10_overwrite 0 (zar 0 [vR 1, vI p, vI v]) [] h Q := by
  have hS := x.1.1
  obtain ⟨h8, e8, l8, b8, _⟩ := XS_8 x
  have l2 : gI h 9 1 ≤ 200 := h8.1.2
  have bad : ¬ ((0 ≤ p ∧ p < (sB s).length) ∧ (0 ≤ v ∧ v ≤ 255)) → Q (some (vI (-1001))) h := fun nb => by
    have e : rOvw s p v = (-1001, s) := by unfold rOvw; rw [if_neg nb]
    rw [e] at k; exact k h x xcF_rf
  refine vc_X10_overwrite_0 p v h hS (by omega) (sp_X0_has tT_9 hS (fun r1 q1 => qI_i ⟨hS, fun z => bad (fun w => ?_), fun z => ?_⟩))
  · rw [q1] at z
    unfold rHas at z
    rw [if_pos (by omega)] at z
    omega
  · have hp : 0 ≤ p ∧ p < gI h 9 1 := by
      rw [q1] at z
      unfold rHas at z
      split at z
      · rename_i w; exact w
      · exact absurd rfl z
    refine sp_X10_isWithin hS (fun r2 q2 => qI_i ⟨hS, fun z2 => ?_, fun z2 => bad (fun w => by omega)⟩)
    refine sp_X0_get tT_9 hS (x9ok h8).1.2 (fun r3 q3 => qI_i ⟨hS, ?_⟩)
    have e3 : r3 = tg (sB s) p.toNat := by
      rw [q3, b8]
      unfold rGet
      rw [if_pos hp]
      exact (lst_tg hp.1 hp.2).symm
    refine yx_keep (by omega) x (fun h16 xm cf16 => qV_i ⟨xm.1.1, ?_⟩)
    obtain ⟨s16, o16, d16⟩ := XM_8 xm
    obtain ⟨c1, c2, c3, c4⟩ := XM_c xm
    have n9 : gI h16 9 1 = gI h 9 1 := by rw [← c1]; exact l8
    refine sp_X0_put tT_9 s16 (x9ok o16).1.2 (fun h20 e20 => qV_i ⟨by rw [e20]; exact rPut_Sh s16, ?_⟩)
    have e20' : h20 = sI h16 10 p.toNat v := by rw [e20, rPut, if_pos (by omega)]
    have F : zF3 (dIn 8) h16 h20 := by rw [e20']; exact zF3.sI ⟨by omega, by omega⟩
    have ob : ∀ b j, b ≠ 10 → gI h20 b j = gI h16 b j := fun b j w => by rw [e20', gI_sI, if_neg (fun w2 => w w2.1)]
    have o10 : ∀ j, gI h20 10 j = if j = p.toNat then v else gI h16 10 j := fun j => by
      rw [e20', gI_sI]
      by_cases q : j = p.toNat
      · rw [if_pos ⟨rfl, q⟩, if_pos q]
      · rw [if_neg (fun w => q w.2), if_neg q]
    have xg : XM h20 s (ovwL (sB s) p.toNat [v], sO s) := by
      refine XM_d F (by rw [e20]; exact rPut_Sh s16) ⟨?_, fun j hj => ?_, fun o ho => ?_⟩ (xdoc ?_ c4 (fun o ho => ?_)) xm
      · show 0 ≤ gI h20 9 1 ∧ gI h20 9 1 ≤ 200
        rw [ob _ _ (by omega)]; exact o16.1
      · show 0 ≤ gI h20 10 j ∧ gI h20 10 j ≤ 255
        rw [o10]
        split
        · omega
        · exact o16.2.1 j hj
      · show (gI h20 11 o = -1 ∧ gI h20 12 o = 0) ∨ ((0 ≤ gI h20 11 o ∧ gI h20 11 o ≤ 3) ∧ 0 ≤ gI h20 12 o ∧ gI h20 12 o ≤ gI h20 9 1)
        rw [ob _ _ (by omega), ob _ _ (by omega), ob _ _ (by omega)]; exact o16.2.2 o ho
      · rw [ob 9 1 (by omega), show sB s = lst (gI h16 10) (gI h16 9 1) from c2]
        refine ovw_lst o16.1.1 (by show ((p.toNat : Nat) : Int) + ((1 : Nat) : Int) ≤ _; omega) (fun j hj => by rw [o10, if_neg (by omega)]) (fun j hj => ?_) (fun j hj hj2 => ?_)
        · have hj' : j < 1 := hj
          have j0 : j = 0 := by omega
          rw [j0, o10, if_pos (by omega)]; rfl
        · have hj' : p.toNat + 1 ≤ j := hj
          rw [o10, if_neg (by omega)]
      · rw [ob _ _ (by omega), ob _ _ (by omega)]; exact c3 o ho
    have er : rOvw s p v = chR s (ovwL (sB s) p.toNat [v], sO s) (fun _ => tg (sB s) p.toNat) := by unfold rOvw; rw [if_pos (by omega)]
    rw [er] at k
    refine yx_chg (h0 := h) (a := fun _ => tg (sB s) p.toNat) (by omega) xg (xcF_tr cf16 (xcF_d F)) (fun g' n' s' xs cf nn e => ⟨fun _ => ?_, fun w => absurd w nn⟩) (fun g' xs cf e => ⟨fun w => absurd rfl w, fun _ => ?_⟩)
    · rw [e] at k
      rw [e3]
      exact k g' xs cf
    · rw [e] at k
      exact k g' xs cf
end XCALL
