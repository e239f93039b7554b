/-! counts -/
noncomputable def alw (s : zSt) : Nat → Int
  | 0 => 0
  | o + 1 => alw s o + cI (ovP (sD s) (o : Int)) (aWr s (o : Int)) 0
noncomputable def rCnt (s : zSt) (w : Int) : Int := if 0 ≤ w ∧ w ≤ 7 then (if w = 0 then ovCnt (sO s) else if w = 1 then alw s 4 else if w = 2 then ((sPa s).length : Int) else if w = 3 then ((sFu s).length : Int) else if w = 4 then ((sCl s).length : Int) else if w = 5 then ((sMk s).length : Int) else if w = 6 then ((sTx s).length : Int) else if sFo s = 0 then 0 else 1) else -1001
section CNT
variable {G : zG} {d : Nat} {Q : Option zV → zHp → Prop} {h : zHp} {s : zSt}
theorem alw_bd (hT : ∀ t, t < 4 → tOk (sTs s t)) (hD : dvOk (sD s)) : ∀ o : Nat, 0 ≤ alw s o ∧ alw s o ≤ 60 * o
  | 0 => ⟨Int.le_refl 0, Int.le_refl 0⟩
  | o + 1 => by
    have ih := alw_bd hT hD o
    rw [alw]
    by_cases op : ovP (sD s) (o : Int)
    · rw [cI_p op]
      have b1 := cntB_bd (fun j => fdW (sB s) ((yL s (o : Int)).1.getD j ([], []))) (yL s (o : Int)).1.length
      have b2 := (hF_ok hT hD op).1
      have b1 : 0 ≤ aWr s (o : Int) ∧ aWr s (o : Int) ≤ ((yL s (o : Int)).1.length : Nat) := b1
      omega
    · rw [cI_n op]; omega
theorem yx_allWrong (hd : 12 ≤ d) (x : XS h s) (k : ∀ g, XS g s → xcF h g → Q (some (vI (alw s 4))) g) : wpN G d M_X10_wrongFieldsOfAll 0 (zar 0 [vR 1]) [] h Q := by
  obtain ⟨hT, hD⟩ := XS_T x
  have loop : ∀ (m o : Nat) (g : zHp), o + m = 4 → XS g s → xcF h g → wpN G d M_X10_wrongFieldsOfAll 4 [(0, vR 1), (1, vI (alw s o)), (2, vI (o : Int))] [] g Q := by
    intro m
    induction m with
    | zero =>
      intro o g ho xg cf
      refine vc_X10_wrongFieldsOfAll_4 _ o g xg.1.1 (by omega) (fun _ _ _ => False) (fun _ _ _ w => w.elim) ⟨fun w => ?_, fun w => by omega⟩
      rw [show o = 4 by omega]
      exact k g xg cf
    | succ m ih =>
      intro o g ho xg cf
      have b0 := alw_bd hT hD o
      have b1 := alw_bd hT hD (o + 1)
      refine vc_X10_wrongFieldsOfAll_4 _ o g xg.1.1 (by omega) (fun y1 y2 g' => y1 = alw s (o + 1) ∧ y2 = ((o + 1 : Nat) : Int) ∧ XS g' s ∧ xcF h g') ?_ ⟨fun w => by omega, fun w => yx_layOut (by omega) xg (fun np => qI_i ⟨xg.1.1, fun _ => ⟨by omega, fun x7 e7 _ => ⟨?_, by omega, xg, cf⟩⟩, fun w2 => absurd rfl w2⟩) (fun g2 op x2 cf2 L _ => qI_i ⟨x2.1.1, fun w2 => absurd w2 (by omega), fun _ => yx_wrongs (o := (o : Int)) (by omega) x2 L op (qI_i ⟨x2.1.1, ?_⟩)⟩)⟩
      · rintro _ _ g' ⟨z0, z1, z2, z3⟩
        rw [z0, z1]
        exact ih (o + 1) g' (by omega) z2 z3
      · rw [alw, cI_n np]; omega
      · rw [alw, cI_p op] at b1
        exact ⟨by omega, fun x13 e13 => ⟨by omega, fun x15 e15 _ => ⟨by rw [alw, cI_p op]; exact e13, by omega, x2, xcF_tr cf cf2⟩⟩⟩
  refine vc_X10_wrongFieldsOfAll_0 h x.1.1 (by omega) (fun y1 y2 g => y1 = 0 ∧ y2 = ((0 : Nat) : Int) ∧ g = h) ?_ (fun _ => ⟨rfl, rfl, rfl⟩)
  rintro _ _ _ ⟨z0, z1, z2⟩
  rw [z0, z1, z2]
  exact loop 4 0 h rfl x xcF_rf
theorem ym_allWrong (hd : 5 ≤ d) (x : MS h s) (k : ∀ g, MS g s → mcF h g → Q (some (vI (alw s 4))) g) : wpN G d M_X11_allWrong 0 (zar 0 [vR 343]) [] h Q := by
  obtain ⟨hT, hD⟩ := MS_T x
  have loop : ∀ (m o : Nat) (g : zHp), o + m = 4 → MS g s → mcF h g → wpN G d M_X11_allWrong 4 [(0, vR 343), (1, vI (alw s o)), (2, vI (o : Int))] [] g Q := by
    intro m
    induction m with
    | zero =>
      intro o g ho xg cf
      refine vc_X11_allWrong_4 _ o g xg.1.1 (by omega) (fun _ _ _ => False) (fun _ _ _ w => w.elim) ⟨fun w => ?_, fun w => by omega⟩
      rw [show o = 4 by omega]
      exact k g xg cf
    | succ m ih =>
      intro o g ho xg cf
      have b0 := alw_bd hT hD o
      have b1 := alw_bd hT hD (o + 1)
      refine vc_X11_allWrong_4 _ o g xg.1.1 (by omega) (fun y1 y2 g' => y1 = alw s (o + 1) ∧ y2 = ((o + 1 : Nat) : Int) ∧ MS g' s ∧ mcF h g') ?_ ⟨fun w => by omega, fun w => ym_pres (by omega) xg (fun np => qI_i ⟨xg.1.1, fun _ => ⟨by omega, fun x7 e7 _ => ⟨?_, by omega, xg, cf⟩⟩, fun w2 => absurd rfl w2⟩) (fun op => qI_i ⟨xg.1.1, fun w2 => absurd w2 (by omega), fun _ => ym_lays (by omega) xg op (fun g2 x2 cf2 L => qV_i ⟨x2.1.1, ym_wrongs (o := (o : Int)) (by omega) x2 L op (qI_i ⟨x2.1.1, ?_⟩)⟩)⟩)⟩
      · rintro _ _ g' ⟨z0, z1, z2, z3⟩
        rw [z0, z1]
        exact ih (o + 1) g' (by omega) z2 z3
      · rw [alw, cI_n np]; omega
      · rw [alw, cI_p op] at b1
        exact ⟨by omega, fun x13 e13 => ⟨by omega, fun x15 e15 _ => ⟨by rw [alw, cI_p op]; exact e13, by omega, x2, mcF_tr cf cf2⟩⟩⟩
  refine vc_X11_allWrong_0 h x.1.1 (by omega) (fun y1 y2 g => y1 = 0 ∧ y2 = ((0 : Nat) : Int) ∧ g = h) ?_ (fun _ => ⟨rfl, rfl, rfl⟩)
  rintro _ _ _ ⟨z0, z1, z2⟩
  rw [z0, z1, z2]
  exact loop 4 0 h rfl x mcF_rf
theorem dCnt_ov (x : XS h s) : ∀ n : Nat, n ≤ 4 → dCnt h 8 n = cntB (fun o => decide (((sO s).getD o (-1, 0)).1 ≠ -1)) n
  | 0, _ => rfl
  | n + 1, hn => by
    rw [dCnt, cntB, dCnt_ov x n (by omega)]
    have e := (XS_8 x).2.2.2.2.1 n (by omega)
    have eh : dHas h 8 (n : Int) = if gI h 11 n ≠ -1 then 1 else 0 := by
      unfold dHas
      by_cases q : gI h 11 n ≠ -1
      · rw [if_pos q, if_pos ⟨by omega, by omega, by rw [show ((n : Nat) : Int).toNat = n by omega]; exact q⟩]
      · rw [if_neg q, if_neg (fun w => q (by have := w.2.2; rw [show ((n : Nat) : Int).toNat = n by omega] at this; exact this))]
    rw [eh, e]
    by_cases q : gI h 11 n ≠ -1
    · rw [if_pos q, if_pos (decide_eq_true q)]
    · rw [if_neg q, if_neg (fun w => q (of_decide_eq_true w))]
theorem rCnt_e {w : Int} (hw : 0 ≤ w ∧ w ≤ 7) : rCnt s w = if w = 0 then ovCnt (sO s) else if w = 1 then alw s 4 else if w = 2 then ((sPa s).length : Int) else if w = 3 then ((sFu s).length : Int) else if w = 4 then ((sCl s).length : Int) else if w = 5 then ((sMk s).length : Int) else if w = 6 then ((sTx s).length : Int) else if sFo s = 0 then 0 else 1 := by
  unfold rCnt
  rw [if_pos hw]
theorem lst_l {f : Nat → Int} {n : Int} {l : List Int} (e : lst f n = l) (h0 : 0 ≤ n) : (l.length : Int) = n := by
  rw [← e, lst_len]; omega
theorem yx_count {w : Int} (hd : 14 ≤ d) (x : XS h s) (k : ∀ g, XS g s → xcF h g → Q (some (vI (rCnt s w))) g) : wpN G d M_X10_count 0 (zar 0 [vR 1, vI w]) [] h Q := by
  refine vc_X10_count_0 w h x.1.1 (by omega) (sp_X10_isWithin x.1.1 (fun r q => qI_i ⟨x.1.1, fun z => ?_, fun z => ?_⟩))
  · have e : rCnt s w = -1001 := by unfold rCnt; rw [if_neg (by omega)]
    rw [e] at k; exact k h x xcF_rf
  · rw [rCnt_e (by omega)] at k
    have x0 := x
    obtain ⟨⟨xS, xo, ⟨x2, x3⟩, ⟨x4, x5⟩, ⟨x6, x7⟩, x8, _⟩, ho, y2, y3, y4⟩ := x
    have lp := hPaL ho
    have lf := hFuL ho
    rw [y3] at lp
    rw [y4] at lf
    have lt := lst_l x2 x3.1
    have lc := lst_l x4 x5.1
    have lm := lst_l x6 x7.1
    have o4 := ho.2.2.2
    refine vc_X10_numberOf_0 w h xS (by omega) ⟨fun c => ⟨fun c2 => qI_i ⟨xS, ?_⟩, fun c2 => qI_i ⟨xS, ?_⟩⟩, fun c => sp_X2_presentOverlays (by omega) zT_8 xS (qI_i ⟨xS, qI_i ⟨xS, ?_⟩⟩), fun c => yx_allWrong (by omega) x0 (fun g xg cf => qI_i ⟨xg.1.1, qI_i ⟨xg.1.1, ?_⟩⟩), fun c => qI_i ⟨xS, ?_⟩, fun c => ⟨by omega, qI_i ⟨xS, ?_⟩⟩, fun c => qI_i ⟨xS, ?_⟩, fun c => qI_i ⟨xS, ?_⟩, fun c => qI_i ⟨xS, ?_⟩⟩
    · rw [if_neg (by omega), if_neg (by omega), if_neg (by omega), if_neg (by omega), if_neg (by omega), if_neg (by omega), if_neg (by omega), if_pos (by rw [← x8]; exact c2)] at k; exact k h x0 xcF_rf
    · rw [if_neg (by omega), if_neg (by omega), if_neg (by omega), if_neg (by omega), if_neg (by omega), if_neg (by omega), if_neg (by omega), if_neg (by rw [← x8]; exact c2)] at k; exact k h x0 xcF_rf
    · rw [if_pos (by omega)] at k
      rw [dCnt_ov x0 4 (Nat.le_refl 4)]; exact k h x0 xcF_rf
    · rw [if_neg (by omega), if_pos (by omega)] at k; exact k g xg cf
    · rw [if_neg (by omega), if_neg (by omega), if_pos (by omega), lp] at k; exact k h x0 xcF_rf
    · rw [if_neg (by omega), if_neg (by omega), if_neg (by omega), if_pos (by omega), lf] at k; exact k h x0 xcF_rf
    · rw [if_neg (by omega), if_neg (by omega), if_neg (by omega), if_neg (by omega), if_pos (by omega), lc] at k; exact k h x0 xcF_rf
    · rw [if_neg (by omega), if_neg (by omega), if_neg (by omega), if_neg (by omega), if_neg (by omega), if_pos (by omega), lm] at k; exact k h x0 xcF_rf
    · rw [if_neg (by omega), if_neg (by omega), if_neg (by omega), if_neg (by omega), if_neg (by omega), if_neg (by omega), if_pos (by omega), lt] at k; exact k h x0 xcF_rf
theorem ym_count {w : Int} (hd : 6 ≤ d) (x : MS h s) (k : ∀ g, MS g s → mcF h g → Q (some (vI (rCnt s w))) g) : wpN G d M_X11_count 0 (zar 0 [vR 343, vI w]) [] h Q := by
  have x0 := x
  obtain ⟨⟨xS, xo, ⟨x2, x3⟩, ⟨x4, x5⟩, ⟨x6, x7⟩, x8, _⟩, ho, y2, y3, y4⟩ := x
  have lp : ((sPa s).length : Int) = gI h 343 2 := by
    rw [← y3]; unfold mPast; rw [List.length_map, List.length_range]; have := ho.1; omega
  have lf : ((sFu s).length : Int) = gI h 343 4 := by
    rw [← y4]; unfold mFut; rw [List.length_map, List.length_range]; have := ho.2.1; omega
  have lt := lst_l x2 x3.1
  have lc := lst_l x4 x5.1
  have lm := lst_l x6 x7.1
  by_cases hw : 0 ≤ w ∧ w ≤ 7
  · rw [rCnt_e hw] at k
    refine vc_X11_count_0 w h xS (by omega) ⟨fun c => by omega, fun c => sp_present (by omega) xS (MS_8 x0).1 (qI_i ⟨xS, ?_⟩), fun c => ym_allWrong (by omega) x0 (fun g xg cf => qI_i ⟨xg.1.1, ?_⟩), fun c => ?_, fun c => ?_, fun c => ?_, fun c => ?_, fun c => ?_, fun c => ⟨fun c2 => ?_, fun c2 => ?_⟩⟩
    · rw [if_pos (by omega)] at k
      rw [(MS_8 x0).2]; exact k h x0 mcF_rf
    · rw [if_neg (by omega), if_pos (by omega)] at k; exact k g xg cf
    · rw [if_neg (by omega), if_neg (by omega), if_pos (by omega), lp] at k; exact k h x0 mcF_rf
    · rw [if_neg (by omega), if_neg (by omega), if_neg (by omega), if_pos (by omega), lf] at k; exact k h x0 mcF_rf
    · rw [if_neg (by omega), if_neg (by omega), if_neg (by omega), if_neg (by omega), if_pos (by omega), lc] at k; exact k h x0 mcF_rf
    · rw [if_neg (by omega), if_neg (by omega), if_neg (by omega), if_neg (by omega), if_neg (by omega), if_pos (by omega), lm] at k; exact k h x0 mcF_rf
    · rw [if_neg (by omega), if_neg (by omega), if_neg (by omega), if_neg (by omega), if_neg (by omega), if_neg (by omega), if_pos (by omega), lt] at k; exact k h x0 mcF_rf
    · rw [if_neg (by omega), if_neg (by omega), if_neg (by omega), if_neg (by omega), if_neg (by omega), if_neg (by omega), if_neg (by omega), if_pos (by rw [← x8]; exact c2)] at k; exact k h x0 mcF_rf
    · rw [if_neg (by omega), if_neg (by omega), if_neg (by omega), if_neg (by omega), if_neg (by omega), if_neg (by omega), if_neg (by omega), if_neg (by rw [← x8]; exact c2)] at k; exact k h x0 mcF_rf
  · have e : rCnt s w = -1001 := by unfold rCnt; rw [if_neg hw]
    rw [e] at k
    exact vc_X11_count_0 w h xS (by omega) ⟨fun c => k h x0 mcF_rf, fun c => by omega, fun c => by omega, fun c => by omega, fun c => by omega, fun c => by omega, fun c => by omega, fun c => by omega, fun c => by omega⟩
end CNT
