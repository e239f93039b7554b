/-! digest, as a value, and of the program -/
def mx (h v : Int) : Int := w64 (w64 (31 * h) + v)
def mxN (f : Nat → Int) (h0 : Int) : Nat → Int
  | 0 => h0
  | k + 1 => mx (mxN f h0 k) (f k)
def dgF (bs : List Int) (fd : List Int × List Int) (h0 : Int) : Int := mxN (fun k => fd.2.getD k 0) (mx (mxN (fun w => prF fd (w : Int)) h0 7) (fdV bs fd)) (fd.1.getD 6 0).toNat
noncomputable def dgO (s : zSt) (o h0 : Int) : Nat → Int
  | 0 => mxN (fun w => rOvl s o (w : Int)) h0 6
  | i + 1 => dgF (sB s) ((yL s o).1.getD i ([], [])) (dgO s o h0 i)
noncomputable def dgA (s : zSt) : Nat → Int
  | 0 => mxN (tg (sB s)) (mx 11 ((sB s).length : Int)) (sB s).length
  | o + 1 => cI (ovP (sD s) (o : Int)) (dgO s (o : Int) (dgA s o) (yL s (o : Int)).1.length) (mx (dgA s o) (-1))
noncomputable def rDig (s : zSt) : Int := mxN (fun w => rCnt s (w : Int)) (mxN (fun t => ((sTs s t).length : Int)) (dgA s 4) 4) 8
theorem mxN_s (f : Nat → Int) (h0 : Int) (k : Nat) : mx (mxN f h0 k) (f k) = mxN f h0 (k + 1) := rfl
section XDIG
variable {G : zG} {d : Nat} {Q : Option zV → zHp → Prop} {h : zHp} {s : zSt}
theorem sp_mix {a b : Int} (hS : zSh h) (k : Q (some (vL (mx a b))) h) : wpN G d M_X10_mix 0 (zar 0 [vL a, vL b]) [] h Q :=
  vc_X10_mix_0 a b h hS (Nat.zero_le _) k
theorem yx_mixField {o y : Int} {i : Nat} (hd : 1 ≤ d) (x : XS h s) (L : xLd h (yL s o)) (op : ovP (sD s) o) (hi : i < (yL s o).1.length) (k : Q (some (vL (dgF (sB s) ((yL s o).1.getD i ([], [])) y))) h) : wpN G d M_X10_mixField 0 (zar 0 [vR 1, vL y, vR (217 + 2 * i)]) [] h Q := by
  obtain ⟨a1, a2, a3, a4, a5, a6, a7⟩ := yx_fd x L op hi
  obtain ⟨r9, b9⟩ := x9ok (XS_8 x).1
  have tf := zfds a7
  rw [getD_e a1] at k
  unfold dgF at k
  have lp2 : ∀ (B : Int), Q (some (vL (mxN (fun k => (xFl h i).2.getD k 0) B (gI h (217 + 2 * i) 6).toNat))) h → ∀ (m l : Nat), l + m = (gI h (217 + 2 * i) 6).toNat → wpN G d M_X10_mixField 54 [(0, vR 1), (1, vL y), (3, vR (217 + 2 * i)), (4, vL (mxN (fun k => (xFl h i).2.getD k 0) B l)), (6, vI (l : Int))] [] h Q := by
    intro B kB m
    induction m with
    | zero =>
      intro l hl
      refine vc_X10_mixField_54 y (217 + 2 * i) tf _ l h x.1.1 hd (fun _ _ _ _ _ => False) (fun _ _ _ _ _ w => w.elim) ⟨fun _ => ?_, fun c => by omega⟩
      rw [show l = (gI h (217 + 2 * i) 6).toNat by omega]
      exact kB
    | succ m ih =>
      intro l hl
      refine vc_X10_mixField_54 y (217 + 2 * i) tf _ l h x.1.1 hd (fun y1 y3 y4 y6 g => y1 = y ∧ y3 = 217 + 2 * i ∧ y4 = mxN (fun k => (xFl h i).2.getD k 0) B (l + 1) ∧ y6 = ((l + 1 : Nat) : Int) ∧ g = h) ?_ ⟨fun c => by omega, fun _ => sp_X3_pathName tf x.1.1 a6 (fun r er => qI_i ⟨x.1.1, sp_mix x.1.1 (qL_i ⟨x.1.1, by omega, fun x10 e10 _ => ⟨rfl, rfl, ?_, by omega, rfl⟩⟩)⟩)⟩
      · rintro _ _ _ _ _ ⟨z0, z1, z2, z3, z4⟩
        rw [z0, z1, z2, z3, z4]
        exact ih (l + 1) (by omega)
      · rw [if_pos ⟨by omega, by omega⟩, show ((l : Nat) : Int).toNat = l by omega] at er
        have e : (xFl h i).2.getD l 0 = r := by
          rw [er]
          show ((List.range (gI h (217 + 2 * i) 6).toNat).map (fun k => gI h (217 + 2 * i + 1) k)).getD l 0 = _
          rw [rng_get (by omega)]
        rw [← mxN_s, e]
  have lp1 : ∀ (m w : Nat), w + m = 7 → wpN G d M_X10_mixField 6 [(0, vR 1), (1, vL y), (3, vR (217 + 2 * i)), (4, vL (mxN (fun w => prF (xFl h i) (w : Int)) y w)), (6, vI (w : Int))] [] h Q := by
    intro m
    induction m with
    | zero =>
      intro w hw
      refine vc_X10_mixField_6 y (217 + 2 * i) tf _ w h x.1.1 hd (fun _ _ _ _ _ => False) (fun _ _ _ _ _ w => w.elim) (fun y1 y3 y4 y6 g => y1 = y ∧ y3 = 217 + 2 * i ∧ y4 = mx (mxN (fun w => prF (xFl h i) (w : Int)) y 7) (fdV (sB s) (xFl h i)) ∧ y6 = ((0 : Nat) : Int) ∧ g = h) ?_ ⟨fun _ => sp_X0_read tT_9 tf x.1.1 r9 b9 a2.1 (fun v ev => qL_i ⟨x.1.1, sp_mix x.1.1 (qL_i ⟨x.1.1, fun _ => ⟨rfl, rfl, ?_, rfl, rfl⟩⟩)⟩), fun c => by omega⟩
      · rintro _ _ _ _ _ ⟨z0, z1, z2, z3, z4⟩
        rw [z0, z1, z2, z3, z4]
        exact lp2 _ k (gI h (217 + 2 * i) 6).toNat 0 (by omega)
      · have ev : v = fV h 9 (217 + 2 * i) := ev
        rw [ev, a3, show w = 7 by omega]
    | succ m ih =>
      intro w hw
      refine vc_X10_mixField_6 y (217 + 2 * i) tf _ w h x.1.1 hd (fun y1 y3 y4 y6 g => y1 = y ∧ y3 = 217 + 2 * i ∧ y4 = mxN (fun w => prF (xFl h i) (w : Int)) y (w + 1) ∧ y6 = ((w + 1 : Nat) : Int) ∧ g = h) ?_ (fun _ _ _ _ _ => False) (fun _ _ _ _ _ w => w.elim) ⟨fun c => by omega, fun _ => sp_X3_property tf x.1.1 a2.2.2 (fun r er => qI_i ⟨x.1.1, sp_mix x.1.1 (qL_i ⟨x.1.1, by omega, fun x18 e18 _ => ⟨rfl, rfl, ?_, by omega, rfl⟩⟩)⟩)⟩
      · rintro _ _ _ _ _ ⟨z0, z1, z2, z3, z4⟩
        rw [z0, z1, z2, z3, z4]
        exact ih (w + 1) (by omega)
      · have e : prF (xFl h i) (w : Int) = r := by rw [er]; rfl
        rw [← mxN_s, e]
  refine vc_X10_mixField_0 y (217 + 2 * i) tf h x.1.1 hd (fun y1 y3 y4 y6 g => y1 = y ∧ y3 = 217 + 2 * i ∧ y4 = mxN (fun w => prF (xFl h i) (w : Int)) y 0 ∧ y6 = ((0 : Nat) : Int) ∧ g = h) ?_ (fun _ => ⟨rfl, rfl, rfl, rfl, rfl⟩)
  rintro _ _ _ _ _ ⟨z0, z1, z2, z3, z4⟩
  rw [z0, z1, z2, z3, z4]
  exact lp1 7 0 rfl
theorem yx_ovProp {o w : Int} (hd : 4 ≤ d) (x : XS h s) (L : xLd h (yL s o)) (op : ovP (sD s) o) (hw : 0 ≤ w ∧ w ≤ 5) (k : Q (some (vI (rOvl s o w))) h) : wpN G d M_X10_overlayProperty 0 (zar 0 [vR 1, vI o, vI w]) [] h Q := by
  have ln : ((yL s o).1.length : Int) = gI h 215 1 := by
    rw [show (yL s o).1 = xFs h from congrArg Prod.fst L.1, xFs_len]
    have := L.2
    omega
  have l2 : (yL s o).2 = (gI h 215 2, gI h 215 3) := congrArg Prod.snd L.1
  have ho : 0 ≤ o ∧ o < 4 := ⟨op.1, op.2.1⟩
  have oa : ovA (sD s) o.toNat = (gI h 11 o.toNat, gI h 12 o.toNat) := (XS_8 x).2.2.2.2.1 _ (by omega)
  rw [rOvl_e op hw] at k
  refine vc_X10_overlayProperty_0 o w h x.1.1 (by omega) ⟨fun c => yx_wrongs (by omega) x L op (qI_i ⟨x.1.1, ?_⟩), fun c => ⟨by omega, ?_⟩, fun c => ⟨by omega, ?_⟩, fun c => ?_, fun c => ?_, fun c => ?_⟩
  · rw [if_neg (by omega), if_neg (by omega), if_neg (by omega), if_neg (by omega), if_neg (by omega)] at k; exact k
  · rw [if_pos (by omega), oa] at k; exact k
  · rw [if_neg (by omega), if_pos (by omega), oa] at k; exact k
  · rw [if_neg (by omega), if_neg (by omega), if_pos (by omega), ln] at k; exact k
  · rw [if_neg (by omega), if_neg (by omega), if_neg (by omega), if_pos (by omega), l2] at k; exact k
  · rw [if_neg (by omega), if_neg (by omega), if_neg (by omega), if_neg (by omega), if_pos (by omega), l2] at k; exact k
theorem yx_mixOverlay {o y : Int} (hd : 5 ≤ d) (x : XS h s) (L : xLd h (yL s o)) (op : ovP (sD s) o) (k : Q (some (vL (dgO s o y (yL s o).1.length))) h) : wpN G d M_X10_mixOverlay 0 (zar 0 [vR 1, vL y, vI o]) [] h Q := by
  have ln : ((yL s o).1.length : Int) = gI h 215 1 := by
    rw [show (yL s o).1 = xFs h from congrArg Prod.fst L.1, xFs_len]
    have := L.2
    omega
  have l60 := (hF_ok (XS_T x).1 (XS_T x).2 op).1
  have lp2 : ∀ (m i : Nat), i + m = (yL s o).1.length → wpN G d M_X10_mixOverlay 36 [(0, vR 1), (1, vL y), (3, vI o), (4, vL (dgO s o y i)), (6, vI (i : Int))] [] h Q := by
    intro m
    induction m with
    | zero =>
      intro i hi
      refine vc_X10_mixOverlay_36 y o _ i h x.1.1 hd (fun _ _ _ _ _ => False) (fun _ _ _ _ _ w => w.elim) ⟨fun _ => ?_, fun c => by omega⟩
      rw [show i = (yL s o).1.length by omega]
      exact k
    | succ m ih =>
      intro i hi
      refine vc_X10_mixOverlay_36 y o _ i h x.1.1 hd (fun y1 y3 y4 y6 g => y1 = y ∧ y3 = o ∧ y4 = dgO s o y (i + 1) ∧ y6 = ((i + 1 : Nat) : Int) ∧ g = h) ?_ ⟨fun c => by omega, fun _ => ⟨by omega, ?_⟩⟩
      · rintro _ _ _ _ _ ⟨z0, z1, z2, z3, z4⟩
        rw [z0, z1, z2, z3, z4]
        exact ih (i + 1) (by omega)
      · rw [show ((i : Nat) : Int).toNat = i by omega]
        exact yx_mixField (by omega) x L op (by omega) (qL_i ⟨x.1.1, by omega, fun x6 e6 _ => ⟨rfl, rfl, rfl, by omega, rfl⟩⟩)
  have lp1 : ∀ (m w : Nat), w + m = 6 → wpN G d M_X10_mixOverlay 6 [(0, vR 1), (1, vL y), (3, vI o), (4, vL (mxN (fun w => rOvl s o (w : Int)) y w)), (6, vI (w : Int))] [] h Q := by
    intro m
    induction m with
    | zero =>
      intro w hw
      refine vc_X10_mixOverlay_6 y o _ w h x.1.1 hd (fun _ _ _ _ _ => False) (fun _ _ _ _ _ w => w.elim) (fun y1 y3 y4 y6 g => y1 = y ∧ y3 = o ∧ y4 = dgO s o y 0 ∧ y6 = ((0 : Nat) : Int) ∧ g = h) ?_ ⟨fun _ _ => ⟨rfl, rfl, ?_, rfl, rfl⟩, fun c => by omega⟩
      · rintro _ _ _ _ _ ⟨z0, z1, z2, z3, z4⟩
        rw [z0, z1, z2, z3, z4]
        exact lp2 (yL s o).1.length 0 (by omega)
      · rw [show w = 6 by omega]; rfl
    | succ m ih =>
      intro w hw
      refine vc_X10_mixOverlay_6 y o _ w h x.1.1 hd (fun y1 y3 y4 y6 g => y1 = y ∧ y3 = o ∧ y4 = mxN (fun w => rOvl s o (w : Int)) y (w + 1) ∧ y6 = ((w + 1 : Nat) : Int) ∧ g = h) ?_ (fun _ _ _ _ _ => False) (fun _ _ _ _ _ w => w.elim) ⟨fun c => by omega, fun _ => yx_ovProp (by omega) x L op (by omega) (qI_i ⟨x.1.1, sp_mix x.1.1 (qL_i ⟨x.1.1, by omega, fun x10 e10 _ => ⟨rfl, rfl, rfl, by omega, rfl⟩⟩)⟩)⟩
      rintro _ _ _ _ _ ⟨z0, z1, z2, z3, z4⟩
      rw [z0, z1, z2, z3, z4]
      exact ih (w + 1) (by omega)
  refine vc_X10_mixOverlay_0 y o h x.1.1 hd (fun y1 y3 y4 y6 g => y1 = y ∧ y3 = o ∧ y4 = mxN (fun w => rOvl s o (w : Int)) y 0 ∧ y6 = ((0 : Nat) : Int) ∧ g = h) ?_ (fun _ => ⟨rfl, rfl, rfl, rfl, rfl⟩)
  rintro _ _ _ _ _ ⟨z0, z1, z2, z3, z4⟩
  rw [z0, z1, z2, z3, z4]
  exact lp1 6 0 rfl
theorem yx_number {w : Int} (hd : 13 ≤ d) (x : XS h s) (hw : 0 ≤ w ∧ w ≤ 7) (k : ∀ g, XS g s → xcF h g → Q (some (vI (rCnt s w))) g) : wpN G d M_X10_numberOf 0 (zar 0 [vR 1, vI w]) [] h Q := by
  rw [rCnt_e hw] at k
  have x0 := x
  obtain ⟨⟨xS, xo, ⟨x2, x3⟩, ⟨x4, x5⟩, ⟨x6, x7⟩, x8, _⟩, ho, y2, y3, y4⟩ := x
  have lp := hPaL ho
  have lf := hFuL ho
  rw [y3] at lp
  rw [y4] at lf
  have lt := lst_l x2 x3.1
  have lc := lst_l x4 x5.1
  have lm := lst_l x6 x7.1
  have o4 := ho.2.2.2
  refine vc_X10_numberOf_0 w h xS (by omega) ⟨fun c => ⟨fun c2 => ?_, fun c2 => ?_⟩, fun c => sp_X2_presentOverlays (by omega) zT_8 xS (qI_i ⟨xS, ?_⟩), fun c => yx_allWrong (by omega) x0 (fun g xg cf => qI_i ⟨xg.1.1, ?_⟩), fun c => ?_, fun c => ⟨by omega, ?_⟩, fun c => ?_, fun c => ?_, fun c => ?_⟩
  · rw [if_neg (by omega), if_neg (by omega), if_neg (by omega), if_neg (by omega), if_neg (by omega), if_neg (by omega), if_neg (by omega), if_pos (by rw [← x8]; exact c2)] at k; exact k h x0 xcF_rf
  · rw [if_neg (by omega), if_neg (by omega), if_neg (by omega), if_neg (by omega), if_neg (by omega), if_neg (by omega), if_neg (by omega), if_neg (by rw [← x8]; exact c2)] at k; exact k h x0 xcF_rf
  · rw [if_pos (by omega)] at k
    rw [dCnt_ov x0 4 (Nat.le_refl 4)]; exact k h x0 xcF_rf
  · rw [if_neg (by omega), if_pos (by omega)] at k; exact k g xg cf
  · rw [if_neg (by omega), if_neg (by omega), if_pos (by omega), lp] at k; exact k h x0 xcF_rf
  · rw [if_neg (by omega), if_neg (by omega), if_neg (by omega), if_pos (by omega), lf] at k; exact k h x0 xcF_rf
  · rw [if_neg (by omega), if_neg (by omega), if_neg (by omega), if_neg (by omega), if_pos (by omega), lc] at k; exact k h x0 xcF_rf
  · rw [if_neg (by omega), if_neg (by omega), if_neg (by omega), if_neg (by omega), if_neg (by omega), if_pos (by omega), lm] at k; exact k h x0 xcF_rf
  · rw [if_neg (by omega), if_neg (by omega), if_neg (by omega), if_neg (by omega), if_neg (by omega), if_neg (by omega), if_pos (by omega), lt] at k; exact k h x0 xcF_rf
theorem yx_digest (hd : 14 ≤ d) (x : XS h s) (k : ∀ g, XS g s → xcF h g → Q (some (vL (rDig s))) g) : wpN G d M_X10_digest 0 (zar 0 [vR 1]) [] h Q := by
  obtain ⟨_, _, l9, eB, _⟩ := XS_8 x
  obtain ⟨r9, b9⟩ := x9ok (XS_8 x).1
  have l2 : gI h 9 1 ≤ 200 := (XS_8 x).1.1.2
  have lp4 : ∀ (m w : Nat) (g : zHp), w + m = 8 → XS g s → xcF h g → wpN G d M_X10_digest 126 [(0, vR 1), (1, vR 9), (2, vL (mxN (fun w => rCnt s (w : Int)) (mxN (fun t => ((sTs s t).length : Int)) (dgA s 4) 4) w)), (4, vI (w : Int))] [] g Q := by
    intro m
    induction m with
    | zero =>
      intro w g hw xg cf
      refine vc_X10_digest_126 _ w g xg.1.1 (by omega) (fun _ _ _ => False) (fun _ _ _ w => w.elim) ⟨fun _ => ?_, fun c => by omega⟩
      rw [show w = 8 by omega]
      exact k g xg cf
    | succ m ih =>
      intro w g hw xg cf
      refine vc_X10_digest_126 _ w g xg.1.1 (by omega) (fun y2 y4 g' => y2 = mxN (fun w => rCnt s (w : Int)) (mxN (fun t => ((sTs s t).length : Int)) (dgA s 4) 4) (w + 1) ∧ y4 = ((w + 1 : Nat) : Int) ∧ XS g' s ∧ xcF h g') ?_ ⟨fun c => by omega, fun _ => yx_number (by omega) xg (by omega) (fun g2 x2 cf2 => qI_i ⟨x2.1.1, sp_mix x2.1.1 (qL_i ⟨x2.1.1, by omega, fun x10 e10 _ => ⟨rfl, by omega, x2, xcF_tr cf cf2⟩⟩)⟩)⟩
      rintro _ _ g' ⟨z0, z1, z2, z3⟩
      rw [z0, z1]
      exact ih (w + 1) g' (by omega) z2 z3
  have lp3 : ∀ (m t : Nat) (g : zHp), t + m = 4 → XS g s → xcF h g → wpN G d M_X10_digest 95 [(0, vR 1), (1, vR 9), (2, vL (mxN (fun t => ((sTs s t).length : Int)) (dgA s 4) t)), (4, vI (t : Int))] [] g Q := by
    intro m
    induction m with
    | zero =>
      intro t g ht xg cf
      refine vc_X10_digest_95 _ t g xg.1.1 (by omega) (fun _ _ _ => False) (fun _ _ _ w => w.elim) (fun y2 y4 g' => y2 = mxN (fun t => ((sTs s t).length : Int)) (dgA s 4) 4 ∧ y4 = ((0 : Nat) : Int) ∧ g' = g) ?_ ⟨fun _ _ => ⟨by rw [show t = 4 by omega], rfl, rfl⟩, fun c => by omega⟩
      rintro _ _ _ ⟨z0, z1, z2⟩
      rw [z0, z1, z2]
      exact lp4 8 0 g rfl xg cf
    | succ m ih =>
      intro t g ht xg cf
      obtain ⟨a, b, c⟩ := xg.1.2.2.2.2.2.2.1 t (by omega)
      have e : ((sTs s t).length : Int) = gI g (gR g 80 t) 1 := by
        rw [← b, xT_len]
        have := (xg.1.2.2.2.2.2.2.2.2.1 t (by omega)).2
        omega
      refine vc_X10_digest_95 _ t g xg.1.1 (by omega) (fun y2 y4 g' => y2 = mxN (fun t => ((sTs s t).length : Int)) (dgA s 4) (t + 1) ∧ y4 = ((t + 1 : Nat) : Int) ∧ g' = g) ?_ (fun _ _ _ => False) (fun _ _ _ w => w.elim) ⟨fun c => by omega, fun _ => ⟨by omega, ?_⟩⟩
      · rintro _ _ _ ⟨z0, z1, z2⟩
        rw [z0, z1, z2]
        exact ih (t + 1) g (by omega) xg cf
      · rw [show ((t : Nat) : Int).toNat = t by omega]
        refine ⟨a, sp_mix xg.1.1 (qL_i ⟨xg.1.1, by omega, fun x6 e6 _ => ⟨?_, by omega, rfl⟩⟩)⟩
        rw [← mxN_s, e]
  have lp2 : ∀ (m o : Nat) (g : zHp), o + m = 4 → XS g s → xcF h g → wpN G d M_X10_digest 53 [(0, vR 1), (1, vR 9), (2, vL (dgA s o)), (4, vI (o : Int))] [] g Q := by
    intro m
    induction m with
    | zero =>
      intro o g ho xg cf
      refine vc_X10_digest_53 _ o g xg.1.1 (by omega) (fun _ _ _ => False) (fun _ _ _ w => w.elim) (fun y2 y4 g' => y2 = mxN (fun t => ((sTs s t).length : Int)) (dgA s 4) 0 ∧ y4 = ((0 : Nat) : Int) ∧ g' = g) ?_ ⟨fun _ _ => ⟨by rw [show o = 4 by omega]; rfl, rfl, rfl⟩, fun c => by omega⟩
      rintro _ _ _ ⟨z0, z1, z2⟩
      rw [z0, z1, z2]
      exact lp3 4 0 g rfl xg cf
    | succ m ih =>
      intro o g ho xg cf
      refine vc_X10_digest_53 _ o g xg.1.1 (by omega) (fun y2 y4 g' => y2 = dgA s (o + 1) ∧ y4 = ((o + 1 : Nat) : Int) ∧ XS g' s ∧ xcF h g') ?_ (fun _ _ _ => False) (fun _ _ _ w => w.elim) ⟨fun c => by omega, fun _ => yx_layOut (by omega) xg (fun np => qI_i ⟨xg.1.1, fun _ => sp_mix xg.1.1 (qL_i ⟨xg.1.1, by omega, fun x11 e11 _ => ⟨?_, by omega, xg, cf⟩⟩), fun w2 => absurd rfl w2⟩) (fun g2 op x2 cf2 L _ => qI_i ⟨x2.1.1, fun w2 => absurd w2 (by omega), fun _ => yx_mixOverlay (o := (o : Int)) (by omega) x2 L op (qL_i ⟨x2.1.1, by omega, fun x17 e17 _ => ⟨?_, by omega, x2, xcF_tr cf cf2⟩⟩)⟩)⟩
      · rintro _ _ g' ⟨z0, z1, z2, z3⟩
        rw [z0, z1]
        exact ih (o + 1) g' (by omega) z2 z3
      · rw [dgA, cI_n np]
      · rw [dgA, cI_p op]
  have lp1 : ∀ (m i : Nat), i + m = (sB s).length → wpN G d M_X10_digest 23 [(0, vR 1), (1, vR 9), (2, vL (mxN (tg (sB s)) (mx 11 ((sB s).length : Int)) i)), (4, vI (i : Int))] [] h Q := by
    intro m
    induction m with
    | zero =>
      intro i hi
      refine vc_X10_digest_23 _ i h x.1.1 (by omega) (fun _ _ _ => False) (fun _ _ _ w => w.elim) (fun y2 y4 g' => y2 = dgA s 0 ∧ y4 = ((0 : Nat) : Int) ∧ g' = h) ?_ ⟨fun _ _ => ⟨by rw [show i = (sB s).length by omega]; rfl, rfl, rfl⟩, fun c => by omega⟩
      rintro _ _ _ ⟨z0, z1, z2⟩
      rw [z0, z1, z2]
      exact lp2 4 0 h rfl x xcF_rf
    | succ m ih =>
      intro i hi
      have q := lst_tg (f := gI h 10) (n := gI h 9 1) (i := (i : Int)) (by omega) (by omega)
      rw [← eB, show ((i : Nat) : Int).toNat = i by omega] at q
      refine vc_X10_digest_23 _ i h x.1.1 (by omega) (fun y2 y4 g' => y2 = mxN (tg (sB s)) (mx 11 ((sB s).length : Int)) (i + 1) ∧ y4 = ((i + 1 : Nat) : Int) ∧ g' = h) ?_ (fun _ _ _ => False) (fun _ _ _ w => w.elim) ⟨fun c => by omega, fun _ => sp_X0_get tT_9 x.1.1 r9.2 (fun r er => qI_i ⟨x.1.1, sp_mix x.1.1 (qL_i ⟨x.1.1, by omega, fun x10 e10 _ => ⟨?_, by omega, rfl⟩⟩)⟩)⟩
      · rintro _ _ _ ⟨z0, z1, z2⟩
        rw [z0, z1, z2]
        exact ih (i + 1) (by omega)
      · rw [rGet, if_pos ⟨by omega, by omega⟩, show ((i : Nat) : Int).toNat = i by omega] at er
        rw [← mxN_s, q, er]
  refine vc_X10_digest_0 h x.1.1 (by omega) (fun y2 y4 g' => y2 = mxN (tg (sB s)) (mx 11 ((sB s).length : Int)) 0 ∧ y4 = ((0 : Nat) : Int) ∧ g' = h) ?_ (sp_mix x.1.1 (qL_i ⟨x.1.1, fun _ => ⟨by rw [l9]; rfl, rfl, rfl⟩⟩))
  rintro _ _ _ ⟨z0, z1, z2⟩
  rw [z0, z1, z2]
  exact lp1 (sB s).length 0 (by omega)
end XDIG
