/-! wrong checks, overlays and expected values -/
def aWr (s : zSt) (o : Int) : Int := cntB (fun j => fdW (sB s) ((yL s o).1.getD j ([], []))) (yL s o).1.length
noncomputable def rOvl (s : zSt) (o w : Int) : Int := cI (ovP (sD s) o ∧ 0 ≤ w ∧ w ≤ 5) (if w = 0 then (ovA (sD s) o.toNat).1 else if w = 1 then (ovA (sD s) o.toNat).2 else if w = 2 then ((yL s o).1.length : Int) else if w = 3 then (yL s o).2.1 else if w = 4 then (yL s o).2.2 else aWr s o) (-1001)
noncomputable def rExp (s : zSt) (o i : Int) : Int := cI (hF s o i) (if 2 ≤ (fA s o i).1.getD 2 0 then fdX (sB s) (fA s o i) else -1009) (-1001)
theorem fdWi {bs : List Int} {fd : List Int × List Int} : fdW bs fd = true ↔ 2 ≤ fd.1.getD 2 0 ∧ fdV bs fd ≠ fdX bs fd := by
  unfold fdW
  rw [Bool.and_eq_true, decide_eq_true_iff, decide_eq_true_iff]
theorem getD_e {F : List (List Int × List Int)} {i : Nat} {fd : List Int × List Int} (e : F[i]? = some fd) : F.getD i ([], []) = fd := by
  rw [List.getD_eq_getElem?_getD, e]; rfl
section WRG
variable {G : zG} {d : Nat} {Q : Option zV → zHp → Prop} {h : zHp} {s : zSt}
theorem yx_wrongs {o : Int} (hd : 3 ≤ d) (x : XS h s) (L : xLd h (yL s o)) (op : ovP (sD s) o) (k : Q (some (vI (aWr s o))) h) : wpN G d M_X10_wrongFields 0 (zar 0 [vR 1]) [] h Q := by
  have ln : ((yL s o).1.length : Int) = gI h 215 1 := by
    rw [show (yL s o).1 = xFs h from congrArg Prod.fst L.1, xFs_len]
    have := L.2
    omega
  obtain ⟨r9, b9⟩ := x9ok (XS_8 x).1
  have loop : ∀ (m i : Nat), i + m = (yL s o).1.length → wpN G d M_X10_wrongFields 4 [(0, vR 1), (1, vI (cntB (fun j => fdW (sB s) ((yL s o).1.getD j ([], []))) i)), (2, vI (i : Int))] [] h Q := by
    intro m
    induction m with
    | zero =>
      intro i hi
      refine vc_X10_wrongFields_4 _ i h x.1.1 hd (fun _ _ _ => False) (fun _ _ _ w => w.elim) ⟨fun w => ?_, fun w => by omega⟩
      have ei : i = (yL s o).1.length := by omega
      rw [ei]
      exact k
    | succ m ih =>
      intro i hi
      obtain ⟨a1, a2, a3, a4, a5, a6, a7⟩ := yx_fd x L op (i := i) (by omega)
      have bd := cntB_bd (fun j => fdW (sB s) ((yL s o).1.getD j ([], []))) i
      have ii : ((i : Nat) : Int).toNat = i := by omega
      have wr : fWrong h 9 (217 + 2 * i) ↔ fdW (sB s) ((yL s o).1.getD i ([], [])) = true := by
        rw [getD_e a1, fdWi, ← a3]
        constructor
        · intro w
          exact ⟨w.1, by rw [← a4 w.1]; exact w.2⟩
        · intro w
          exact ⟨w.1, by rw [a4 w.1]; exact w.2⟩
      refine vc_X10_wrongFields_4 _ i h x.1.1 hd (fun y1 y2 g => y1 = cntB (fun j => fdW (sB s) ((yL s o).1.getD j ([], []))) (i + 1) ∧ y2 = ((i + 1 : Nat) : Int) ∧ g = h) ?_ ⟨fun w => by omega, fun w => ⟨by omega, ?_⟩⟩
      · rintro _ _ _ ⟨z0, z1, z2⟩
        rw [z0, z1, z2]
        exact ih (i + 1) (by omega)
      · rw [ii]
        refine sp_X1_isWrong (by omega) tT_9 (zfds a7) x.1.1 r9 b9 a2 (fun w2 => qI_i ⟨x.1.1, fun z => absurd z (by omega), fun _ => ⟨by omega, fun x9 e9 => ⟨by omega, fun x11 e11 _ => ⟨?_, by omega, rfl⟩⟩⟩⟩) (fun w2 => qI_i ⟨x.1.1, fun _ => ⟨by omega, fun x7 e7 _ => ⟨?_, by omega, rfl⟩⟩, fun z => absurd rfl z⟩)
        · rw [cntB, if_pos (wr.mp w2)]; exact e9
        · rw [cntB, if_neg (fun z => w2 (wr.mpr z))]; omega
  refine vc_X10_wrongFields_0 h x.1.1 hd (fun y1 y2 g => y1 = 0 ∧ y2 = ((0 : Nat) : Int) ∧ g = h) ?_ (fun _ => ⟨rfl, rfl, rfl⟩)
  rintro _ _ _ ⟨z0, z1, z2⟩
  rw [z0, z1, z2]
  exact loop (yL s o).1.length 0 (by omega)
theorem ym_wrongs {o : Int} (hd : 3 ≤ d) (x : MS h s) (L : mLd h (yL s o)) (op : ovP (sD s) o) (k : Q (some (vI (aWr s o))) h) : wpN G d M_X11_wrongs 0 (zar 0 [vR 343]) [] h Q := by
  have ln := mLd_len L
  have loop : ∀ (m i : Nat), i + m = (yL s o).1.length → wpN G d M_X11_wrongs 4 [(0, vR 343), (1, vI (cntB (fun j => fdW (sB s) ((yL s o).1.getD j ([], []))) i)), (2, vI (i : Int))] [] h Q := by
    intro m
    induction m with
    | zero =>
      intro i hi
      refine vc_X11_wrongs_4 _ i h x.1.1 hd (fun _ _ _ => False) (fun _ _ _ w => w.elim) ⟨fun w => ?_, fun w => by omega⟩
      have ei : i = (yL s o).1.length := by omega
      rw [ei]
      exact k
    | succ m ih =>
      intro i hi
      obtain ⟨a1, a2, a3, a4, a5, a6, a7⟩ := ym_fd x L op (i := i) (by omega)
      have bd := cntB_bd (fun j => fdW (sB s) ((yL s o).1.getD j ([], []))) i
      have wr : mWrong h i ↔ fdW (sB s) ((yL s o).1.getD i ([], [])) = true := by
        rw [getD_e a1, fdWi, ← a3]
        constructor
        · intro w
          exact ⟨w.1, by rw [← a4 w.1]; exact w.2⟩
        · intro w
          exact ⟨w.1, by rw [a4 w.1]; exact w.2⟩
      refine vc_X11_wrongs_4 _ i h x.1.1 hd (fun y1 y2 g => y1 = cntB (fun j => fdW (sB s) ((yL s o).1.getD j ([], []))) (i + 1) ∧ y2 = ((i + 1 : Nat) : Int) ∧ g = h) ?_ ⟨fun w => by omega, fun w => sp_mWrong (by omega) x.1.1 (MS_8 x).1 a7 a2 (fun w2 => qI_i ⟨x.1.1, fun z => absurd z (by omega), fun _ => ⟨by omega, fun x9 e9 => ⟨by omega, fun x11 e11 _ => ⟨?_, by omega, rfl⟩⟩⟩⟩) (fun w2 => qI_i ⟨x.1.1, fun _ => ⟨by omega, fun x7 e7 => ⟨by omega, fun x9 e9 _ => ⟨?_, by omega, rfl⟩⟩⟩, fun z => absurd rfl z⟩)⟩
      · rintro _ _ _ ⟨z0, z1, z2⟩
        rw [z0, z1, z2]
        exact ih (i + 1) (by omega)
      · rw [cntB, if_pos (wr.mp w2)]; exact e9
      · rw [cntB, if_neg (fun z => w2 (wr.mpr z))]; exact e7
  refine vc_X11_wrongs_0 h x.1.1 hd (fun y1 y2 g => y1 = 0 ∧ y2 = ((0 : Nat) : Int) ∧ g = h) ?_ (fun _ => ⟨rfl, rfl, rfl⟩)
  rintro _ _ _ ⟨z0, z1, z2⟩
  rw [z0, z1, z2]
  exact loop (yL s o).1.length 0 (by omega)
theorem rOvl_e {o w : Int} (op : ovP (sD s) o) (hw : 0 ≤ w ∧ w ≤ 5) : rOvl s o w = if w = 0 then (ovA (sD s) o.toNat).1 else if w = 1 then (ovA (sD s) o.toNat).2 else if w = 2 then ((yL s o).1.length : Int) else if w = 3 then (yL s o).2.1 else if w = 4 then (yL s o).2.2 else aWr s o := cI_p ⟨op, hw⟩
theorem yx_overlay {o w : Int} (hd : 12 ≤ d) (x : XS h s) (k : ∀ g, XS g s → xcF h g → Q (some (vI (rOvl s o w))) g) : wpN G d M_X10_overlay 0 (zar 0 [vR 1, vI o, vI w]) [] h Q := by
  have bad : ¬ (ovP (sD s) o ∧ 0 ≤ w ∧ w ≤ 5) → Q (some (vI (-1001))) h := fun nb => by
    have e : rOvl s o w = -1001 := cI_n nb
    rw [e] at k; exact k h x xcF_rf
  refine vc_X10_overlay_0 o w h x.1.1 (by omega) (sp_X10_isWithin x.1.1 (fun r q => qI_i ⟨x.1.1, fun z => bad (fun f => by omega), fun z => yx_layOut (by omega) x (fun np => qI_i ⟨x.1.1, fun w2 => absurd rfl w2, fun _ => bad (fun f => np f.1)⟩) (fun g op xg cf L _ => qI_i ⟨xg.1.1, fun _ => ?_, fun w2 => absurd w2 (by omega)⟩)⟩))
  have L' : xLd g (yL s o) := L
  have ln : ((yL s o).1.length : Int) = gI g 215 1 := by
    rw [show (yL s o).1 = xFs g from congrArg Prod.fst L'.1, xFs_len]
    have := L'.2
    omega
  have l2 : (yL s o).2 = (gI g 215 2, gI g 215 3) := congrArg Prod.snd L'.1
  have e := rOvl_e op (w := w) (by omega)
  have ho : 0 ≤ o ∧ o < 4 := ⟨op.1, op.2.1⟩
  have oa : ovA (sD s) o.toNat = (gI g 11 o.toNat, gI g 12 o.toNat) := (XS_8 xg).2.2.2.2.1 _ (by omega)
  have k2 := k g xg cf
  rw [e] at k2
  refine vc_X10_overlayProperty_0 o w g xg.1.1 (by omega) ⟨fun c => yx_wrongs (by omega) xg L' op (qI_i ⟨xg.1.1, qI_i ⟨xg.1.1, ?_⟩⟩), fun c => ⟨by omega, qI_i ⟨xg.1.1, ?_⟩⟩, fun c => ⟨by omega, qI_i ⟨xg.1.1, ?_⟩⟩, fun c => qI_i ⟨xg.1.1, ?_⟩, fun c => qI_i ⟨xg.1.1, ?_⟩, fun c => qI_i ⟨xg.1.1, ?_⟩⟩
  · rw [if_neg (by omega), if_neg (by omega), if_neg (by omega), if_neg (by omega), if_neg (by omega)] at k2; exact k2
  · rw [if_pos (by omega), oa] at k2; exact k2
  · rw [if_neg (by omega), if_pos (by omega), oa] at k2; exact k2
  · rw [if_neg (by omega), if_neg (by omega), if_pos (by omega), ln] at k2; exact k2
  · rw [if_neg (by omega), if_neg (by omega), if_neg (by omega), if_pos (by omega), l2] at k2; exact k2
  · rw [if_neg (by omega), if_neg (by omega), if_neg (by omega), if_neg (by omega), if_pos (by omega), l2] at k2; exact k2
theorem ym_overlay {o w : Int} (hd : 5 ≤ d) (x : MS h s) (k : ∀ g, MS g s → mcF h g → Q (some (vI (rOvl s o w))) g) : wpN G d M_X11_overlay 0 (zar 0 [vR 343, vI o, vI w]) [] h Q := by
  have bad : ¬ (ovP (sD s) o ∧ 0 ≤ w ∧ w ≤ 5) → Q (some (vI (-1001))) h := fun nb => by
    have e : rOvl s o w = -1001 := cI_n nb
    rw [e] at k; exact k h x mcF_rf
  refine vc_X11_overlay_0 o w h x.1.1 (by omega) (ym_pres (by omega) x (fun np => qI_i ⟨x.1.1, fun _ => bad (fun f => np f.1), fun w2 => absurd rfl w2⟩) (fun op => qI_i ⟨x.1.1, fun w2 => absurd w2 (by omega), fun _ => sp_in x.1.1 (fun r q => qI_i ⟨x.1.1, fun z => ym_lays (by omega) x op (fun g xg cf L => qV_i ⟨xg.1.1, ?_⟩), fun z => bad (fun f => by omega)⟩)⟩))
  have ln := mLd_len L
  have l2 : (yL s o).2 = (gI g 343 32, gI g 343 33) := congrArg Prod.snd L.1
  have e := rOvl_e op (w := w) (by omega)
  have ho : 0 ≤ o ∧ o < 4 := ⟨op.1, op.2.1⟩
  have h4 : o.toNat < 4 := by omega
  have oa : ovA (sD s) o.toNat = (gI g 344 (202 + 3 * o.toNat), gI g 344 (203 + 3 * o.toNat)) := by
    have w3 := op.2.2
    unfold ovA at w3 ⊢
    rw [(MS_c xg).2.2.1 _ h4] at w3 ⊢
    by_cases q : gI g 344 (201 + 3 * o.toNat) = 1
    · rw [if_pos q]
    · rw [if_neg q] at w3; exact absurd rfl w3
  have k2 := k g xg cf
  rw [e] at k2
  have oe : zar 0 [vR 343, vI o] = zar 0 [vR 343, vI ((o.toNat : Nat) : Int)] := by rw [show ((o.toNat : Nat) : Int) = o by omega]
  refine ⟨fun c => ym_wrongs (by omega) xg L op (qI_i ⟨xg.1.1, ?_⟩), fun c => ?_, fun c => ?_, fun c => ?_, fun c => ?_, fun c => ?_⟩
  · rw [if_neg (by omega), if_neg (by omega), if_neg (by omega), if_neg (by omega), if_neg (by omega)] at k2; exact k2
  · rw [if_pos (by omega), oa] at k2
    rw [oe]
    exact sp_templateOf xg.1.1 h4 (qI_i ⟨xg.1.1, k2⟩)
  · rw [if_neg (by omega), if_pos (by omega), oa] at k2
    rw [oe]
    exact sp_offsetOf xg.1.1 h4 (qI_i ⟨xg.1.1, k2⟩)
  · rw [if_neg (by omega), if_neg (by omega), if_pos (by omega), ln] at k2; exact k2
  · rw [if_neg (by omega), if_neg (by omega), if_neg (by omega), if_pos (by omega), l2] at k2; exact k2
  · rw [if_neg (by omega), if_neg (by omega), if_neg (by omega), if_neg (by omega), if_pos (by omega), l2] at k2; exact k2
theorem yx_expected {o i : Int} (hd : 13 ≤ d) (x : XS h s) (k : ∀ g, XS g s → xcF h g → Q (some (vI (rExp s o i))) g) : wpN G d M_X10_expected 0 (zar 0 [vR 1, vI o, vI i]) [] h Q := by
  refine vc_X10_expected_0 o i h x.1.1 (by omega) (yx_hasF (by omega) x (fun g nf xg cf => qI_i ⟨xg.1.1, fun w2 => absurd rfl w2, fun _ => ?_⟩) (fun g f xg cf L => qI_i ⟨xg.1.1, fun _ => ?_, fun w2 => absurd w2 (by omega)⟩))
  · have e : rExp s o i = -1001 := cI_n nf
    rw [e] at k; exact k g xg cf
  · obtain ⟨op, i0, i1⟩ := f
    obtain ⟨a1, a2, a3, a4, a5, a6, a7⟩ := yx_fd xg L op (i := i.toNat) (by omega)
    obtain ⟨r9, b9⟩ := x9ok (XS_8 xg).1
    have e : rExp s o i = if 2 ≤ gI g (217 + 2 * i.toNat) 2 then fdX (sB s) (xFl g i.toNat) else -1009 := by
      refine (cI_p ⟨op, i0, i1⟩).trans ?_
      rw [fA_e a1]; rfl
    refine ⟨by omega, sp_X3_isCheck (zfds a7) xg.1.1 (fun r er => qI_i ⟨xg.1.1, fun z => ?_, fun z => ?_⟩)⟩
    · have q : ¬ 2 ≤ gI g (217 + 2 * i.toNat) 2 := fun q => by rw [if_pos q] at er; omega
      rw [if_neg q] at e
      rw [e] at k; exact k g xg cf
    · have q : 2 ≤ gI g (217 + 2 * i.toNat) 2 := by
        by_cases q : 2 ≤ gI g (217 + 2 * i.toNat) 2
        · exact q
        · rw [if_neg q] at er; omega
      rw [if_pos q, ← a4 q] at e
      rw [e] at k
      exact sp_X1_expectedOf (by omega) tT_9 (zfds a7) xg.1.1 r9 b9 (fOk_ck a2 q) (qI_i ⟨xg.1.1, k g xg cf⟩)
theorem ym_expected {o i : Int} (hd : 6 ≤ d) (x : MS h s) (k : ∀ g, MS g s → mcF h g → Q (some (vI (rExp s o i))) g) : wpN G d M_X11_expected 0 (zar 0 [vR 343, vI o, vI i]) [] h Q := by
  refine vc_X11_expected_0 o i h x.1.1 (by omega) (ym_hasF (by omega) x (fun g nf xg cf => qI_i ⟨xg.1.1, fun w2 => absurd rfl w2, fun _ => ?_⟩) (fun g f xg cf L => qI_i ⟨xg.1.1, fun _ => ?_, fun w2 => absurd w2 (by omega)⟩))
  · have e : rExp s o i = -1001 := cI_n nf
    rw [e] at k; exact k g xg cf
  · obtain ⟨op, i0, i1⟩ := f
    obtain ⟨a1, a2, a3, a4, a5, a6, a7⟩ := ym_fd xg L op (i := i.toNat) (by omega)
    have e : rExp s o i = if 2 ≤ gI g 356 i.toNat then fdX (sB s) (mFl g i.toNat) else -1009 := by
      refine (cI_p ⟨op, i0, i1⟩).trans ?_
      rw [fA_e a1]; rfl
    refine ⟨by omega, fun q => ?_, fun q => ?_⟩
    · rw [if_neg (by omega)] at e
      rw [e] at k; exact k g xg cf
    · have q : 2 ≤ gI g 356 i.toNat := by omega
      rw [if_pos q, ← a4 q] at e
      rw [e] at k
      have ck : mCk g i.toNat := by
        rcases a2.2.1 with w | w | w
        · omega
        · omega
        · exact w
      rw [show zar 0 [vR 343, vI i] = zar 0 [vR 343, vI ((i.toNat : Nat) : Int)] by rw [show ((i.toNat : Nat) : Int) = i by omega]]
      exact sp_expectedOf (by omega) xg.1.1 (MS_8 xg).1 a7 ck (qI_i ⟨xg.1.1, k g xg cf⟩)
end WRG
