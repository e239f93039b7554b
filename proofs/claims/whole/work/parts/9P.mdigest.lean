/-! digest of the model -/
section MDIG
variable {G : zG} {d : Nat} {Q : Option zV → zHp → Prop} {h : zHp} {s : zSt}
theorem ym_overlay2 {o w : Int} (hd : 5 ≤ d) (x : MS h s) (op : ovP (sD s) o) (hw : 0 ≤ w ∧ w ≤ 5) (k : ∀ g, MS g s → zF4 mLf h g → mLd g (yL s o) → Q (some (vI (rOvl s o w))) g) : wpN G d M_X11_overlay 0 (zar 0 [vR 343, vI o, vI w]) [] h Q := by
  refine vc_X11_overlay_0 o w h x.1.1 (by omega) (ym_pres (by omega) x (fun np => absurd op np) (fun op => qI_i ⟨x.1.1, fun w2 => absurd w2 (by omega), fun _ => sp_in x.1.1 (fun r q => qI_i ⟨x.1.1, fun z => ym_lays2 (by omega) x op (fun g xg cf L => qV_i ⟨xg.1.1, ?_⟩), fun z => absurd hw (by omega)⟩)⟩))
  have ln := mLd_len L
  have l2 : (yL s o).2 = (gI g 343 32, gI g 343 33) := congrArg Prod.snd L.1
  have e := rOvl_e op (w := w) (by omega)
  have ho : 0 ≤ o ∧ o < 4 := ⟨op.1, op.2.1⟩
  have h4 : o.toNat < 4 := by omega
  have oa : ovA (sD s) o.toNat = (gI g 344 (202 + 3 * o.toNat), gI g 344 (203 + 3 * o.toNat)) := by
    have w3 := op.2.2
    unfold ovA at w3 ⊢
    rw [(MS_c xg).2.2.1 _ h4] at w3 ⊢
    by_cases q : gI g 344 (201 + 3 * o.toNat) = 1
    · rw [if_pos q]
    · rw [if_neg q] at w3; exact absurd rfl w3
  have k2 := k g xg cf L
  rw [e] at k2
  have oe : zar 0 [vR 343, vI o] = zar 0 [vR 343, vI ((o.toNat : Nat) : Int)] := by rw [show ((o.toNat : Nat) : Int) = o by omega]
  refine ⟨fun c => ym_wrongs (by omega) xg L op (qI_i ⟨xg.1.1, ?_⟩), fun c => ?_, fun c => ?_, fun c => ?_, fun c => ?_, fun c => ?_⟩
  · rw [if_neg (by omega), if_neg (by omega), if_neg (by omega), if_neg (by omega), if_neg (by omega)] at k2; exact k2
  · rw [if_pos (by omega), oa] at k2
    rw [oe]
    exact sp_templateOf xg.1.1 h4 (qI_i ⟨xg.1.1, k2⟩)
  · rw [if_neg (by omega), if_pos (by omega), oa] at k2
    rw [oe]
    exact sp_offsetOf xg.1.1 h4 (qI_i ⟨xg.1.1, k2⟩)
  · rw [if_neg (by omega), if_neg (by omega), if_pos (by omega), ln] at k2; exact k2
  · rw [if_neg (by omega), if_neg (by omega), if_neg (by omega), if_pos (by omega), l2] at k2; exact k2
  · rw [if_neg (by omega), if_neg (by omega), if_neg (by omega), if_neg (by omega), if_pos (by omega), l2] at k2; exact k2
theorem ym_allWrong2 (hd : 5 ≤ d) (x : MS h s) (k : ∀ g, MS g s → zF4 mLf h g → Q (some (vI (alw s 4))) g) : wpN G d M_X11_allWrong 0 (zar 0 [vR 343]) [] h Q := by
  obtain ⟨hT, hD⟩ := MS_T x
  have loop : ∀ (m o : Nat) (g : zHp), o + m = 4 → MS g s → zF4 mLf h g → wpN G d M_X11_allWrong 4 [(0, vR 343), (1, vI (alw s o)), (2, vI (o : Int))] [] g Q := by
    intro m
    induction m with
    | zero =>
      intro o g ho xg cf
      refine vc_X11_allWrong_4 _ o g xg.1.1 (by omega) (fun _ _ _ => False) (fun _ _ _ w => w.elim) ⟨fun w => ?_, fun w => by omega⟩
      rw [show o = 4 by omega]
      exact k g xg cf
    | succ m ih =>
      intro o g ho xg cf
      have b0 := alw_bd hT hD o
      have b1 := alw_bd hT hD (o + 1)
      refine vc_X11_allWrong_4 _ o g xg.1.1 (by omega) (fun y1 y2 g' => y1 = alw s (o + 1) ∧ y2 = ((o + 1 : Nat) : Int) ∧ MS g' s ∧ zF4 mLf h g') ?_ ⟨fun w => by omega, fun w => ym_pres (by omega) xg (fun np => qI_i ⟨xg.1.1, fun _ => ⟨by omega, fun x7 e7 _ => ⟨?_, by omega, xg, cf⟩⟩, fun w2 => absurd rfl w2⟩) (fun op => qI_i ⟨xg.1.1, fun w2 => absurd w2 (by omega), fun _ => ym_lays2 (by omega) xg op (fun g2 x2 cf2 L => qV_i ⟨x2.1.1, ym_wrongs (o := (o : Int)) (by omega) x2 L op (qI_i ⟨x2.1.1, ?_⟩)⟩)⟩)⟩
      · rintro _ _ g' ⟨z0, z1, z2, z3⟩
        rw [z0, z1]
        exact ih (o + 1) g' (by omega) z2 z3
      · rw [alw, cI_n np]; omega
      · rw [alw, cI_p op] at b1
        exact ⟨by omega, fun x13 e13 => ⟨by omega, fun x15 e15 _ => ⟨by rw [alw, cI_p op]; exact e13, by omega, x2, cf.tr cf2⟩⟩⟩
  refine vc_X11_allWrong_0 h x.1.1 (by omega) (fun y1 y2 g => y1 = 0 ∧ y2 = ((0 : Nat) : Int) ∧ g = h) ?_ (fun _ => ⟨rfl, rfl, rfl⟩)
  rintro _ _ _ ⟨z0, z1, z2⟩
  rw [z0, z1, z2]
  exact loop 4 0 h rfl x zF4.rf
theorem ym_count2 {w : Int} (hd : 6 ≤ d) (x : MS h s) (k : ∀ g, MS g s → zF4 mLf h g → Q (some (vI (rCnt s w))) g) : wpN G d M_X11_count 0 (zar 0 [vR 343, vI w]) [] h Q := by
  have x0 := x
  obtain ⟨⟨xS, xo, ⟨x2, x3⟩, ⟨x4, x5⟩, ⟨x6, x7⟩, x8, _⟩, ho, y2, y3, y4⟩ := x
  have lp : ((sPa s).length : Int) = gI h 343 2 := by
    rw [← y3]; unfold mPast; rw [List.length_map, List.length_range]; have := ho.1; omega
  have lf : ((sFu s).length : Int) = gI h 343 4 := by
    rw [← y4]; unfold mFut; rw [List.length_map, List.length_range]; have := ho.2.1; omega
  have lt := lst_l x2 x3.1
  have lc := lst_l x4 x5.1
  have lm := lst_l x6 x7.1
  by_cases hw : 0 ≤ w ∧ w ≤ 7
  · rw [rCnt_e hw] at k
    refine vc_X11_count_0 w h xS (by omega) ⟨fun c => by omega, fun c => sp_present (by omega) xS (MS_8 x0).1 (qI_i ⟨xS, ?_⟩), fun c => ym_allWrong2 (by omega) x0 (fun g xg cf => qI_i ⟨xg.1.1, ?_⟩), fun c => ?_, fun c => ?_, fun c => ?_, fun c => ?_, fun c => ?_, fun c => ⟨fun c2 => ?_, fun c2 => ?_⟩⟩
    · rw [if_pos (by omega)] at k
      rw [(MS_8 x0).2]; exact k h x0 zF4.rf
    · rw [if_neg (by omega), if_pos (by omega)] at k; exact k g xg cf
    · rw [if_neg (by omega), if_neg (by omega), if_pos (by omega), lp] at k; exact k h x0 zF4.rf
    · rw [if_neg (by omega), if_neg (by omega), if_neg (by omega), if_pos (by omega), lf] at k; exact k h x0 zF4.rf
    · rw [if_neg (by omega), if_neg (by omega), if_neg (by omega), if_neg (by omega), if_pos (by omega), lc] at k; exact k h x0 zF4.rf
    · rw [if_neg (by omega), if_neg (by omega), if_neg (by omega), if_neg (by omega), if_neg (by omega), if_pos (by omega), lm] at k; exact k h x0 zF4.rf
    · rw [if_neg (by omega), if_neg (by omega), if_neg (by omega), if_neg (by omega), if_neg (by omega), if_neg (by omega), if_pos (by omega), lt] at k; exact k h x0 zF4.rf
    · rw [if_neg (by omega), if_neg (by omega), if_neg (by omega), if_neg (by omega), if_neg (by omega), if_neg (by omega), if_neg (by omega), if_pos (by rw [← x8]; exact c2)] at k; exact k h x0 zF4.rf
    · rw [if_neg (by omega), if_neg (by omega), if_neg (by omega), if_neg (by omega), if_neg (by omega), if_neg (by omega), if_neg (by omega), if_neg (by rw [← x8]; exact c2)] at k; exact k h x0 zF4.rf
  · have e : rCnt s w = -1001 := by unfold rCnt; rw [if_neg hw]
    rw [e] at k
    exact vc_X11_count_0 w h xS (by omega) ⟨fun c => k h x0 zF4.rf, fun c => by omega, fun c => by omega, fun c => by omega, fun c => by omega, fun c => by omega, fun c => by omega, fun c => by omega, fun c => by omega⟩
theorem sp_mixes {v : Int} (hS : zSh h) (k : ∀ g, g = sL h 343 44 (mx (gL h 343 44) v) → Q none g) : wpN G d M_X11_mixes 0 (zar 0 [vR 343, vL v]) [] h Q :=
  vc_X11_mixes_0 v h hS (Nat.zero_le _) k
theorem MS_mx {g : zHp} {z : Int} (e : g = sL h 343 44 z) (x : MS h s) : MS g s ∧ mcF h g ∧ gL g 343 44 = z := by
  have F : zF4 (fun b j => b = 343 ∧ j = 44) h g := by rw [e]; exact zF4.sL ⟨rfl, rfl⟩
  exact ⟨MS_F F (fun j hj w => by omega) (fun b j hb w => by omega) x, mcF_4 F (fun b j hb w => by omega), by rw [e, gL_sL, if_pos ⟨rfl, rfl⟩]⟩
theorem mLd_mx {g : zHp} {z : Int} {L : List (List Int × List Int) × (Int × Int)} (e : g = sL h 343 44 z) (l : mLd h L) : mLd g L := by
  rw [e]; exact l
theorem mLf_44 {g : zHp} (F : zF4 mLf h g) : gL g 343 44 = gL h 343 44 := (F.1 343 44 (by unfold mLf; omega)).2
theorem ym_mixesOverlay {o : Int} (hd : 6 ≤ d) (x : MS h s) (op : ovP (sD s) o) (k : ∀ g, MS g s → mcF h g → gL g 343 44 = dgO s o (gL h 343 44) (yL s o).1.length → Q none g) : wpN G d M_X11_mixesOverlay 0 (zar 0 [vR 343, vI o]) [] h Q := by
  have l60 := (hF_ok (MS_T x).1 (MS_T x).2 op).1
  have lp2 : ∀ (m i : Nat) (g : zHp), i + m = (yL s o).1.length → MS g s → mcF h g → mLd g (yL s o) → gL g 343 44 = dgO s o (gL h 343 44) i → wpN G d M_X11_mixesOverlay 27 [(0, vR 343), (1, vI o), (2, vI (i : Int))] [] g Q := by
    intro m
    induction m with
    | zero =>
      intro i g hi xg cf L e
      have ln := mLd_len L
      refine vc_X11_mixesOverlay_27 o i g xg.1.1 hd (fun _ _ _ _ => False) (fun _ _ _ _ w => w.elim) ⟨fun _ => ?_, fun c => by omega⟩
      rw [show i = (yL s o).1.length by omega] at e
      exact k g xg cf e
    | succ m ih =>
      intro i g0 hi xg0 cf0 L0 e0
      have ln := mLd_len L0
      have lp4 : ∀ (n l : Nat) (g : zHp), l + n = (((yL s o).1.getD i ([], [])).1.getD 6 0).toNat → MS g s → mcF h g → mLd g (yL s o) → gL g 343 44 = mxN (fun k => ((yL s o).1.getD i ([], [])).2.getD k 0) (mx (mxN (fun w => prF ((yL s o).1.getD i ([], [])) (w : Int)) (dgO s o (gL h 343 44) i) 7) (fdV (sB s) ((yL s o).1.getD i ([], [])))) l → wpN G d M_X11_mixesOverlay 71 [(0, vR 343), (1, vI o), (2, vI (i : Int)), (3, vI (l : Int))] [] g Q := by
        intro n
        induction n with
        | zero =>
          intro l g hl xg cf L e
          obtain ⟨a1, a2, a3, a4, a5, a6, a7⟩ := ym_fd xg L op (i := i) (by omega)
          rw [getD_e a1] at hl
          have hl : l + 0 = (gI g 360 i).toNat := hl
          refine vc_X11_mixesOverlay_71 o i l g xg.1.1 hd (fun y1 y2 g' => y1 = o ∧ y2 = ((i + 1 : Nat) : Int) ∧ g' = g) ?_ (fun _ _ _ _ => False) (fun _ _ _ _ w => w.elim) ⟨by omega, ?_⟩
          · rintro _ _ _ ⟨z0, z1, z2⟩
            rw [z0, z1, z2]
            refine ih (i + 1) g (by omega) xg cf L ?_
            rw [e]
            rw [show dgO s o (gL h 343 44) (i + 1) = dgF (sB s) ((yL s o).1.getD i ([], [])) (dgO s o (gL h 343 44) i) from rfl]
            unfold dgF
            rw [getD_e a1, show l = ((mFl g i).1.getD 6 0).toNat from hl]
          · rw [show ((i : Nat) : Int).toNat = i by omega]
            exact ⟨fun _ => ⟨by omega, fun x2 e2 _ => ⟨rfl, by omega, rfl⟩⟩, fun c => by omega⟩
        | succ n ih4 =>
          intro l g hl xg cf L e
          obtain ⟨a1, a2, a3, a4, a5, a6, a7⟩ := ym_fd xg L op (i := i) (by omega)
          have hl0 := hl
          rw [getD_e a1] at hl
          have hl : l + (n + 1) = (gI g 360 i).toNat := hl
          have eN : ((yL s o).1.getD i ([], [])).2.getD l 0 = gI g 361 (4 * i + l) := by
            rw [getD_e a1]
            show ((List.range (gI g 360 i).toNat).map (fun k => gI g 361 (4 * i + k))).getD l 0 = _
            rw [rng_get (by omega)]
          refine vc_X11_mixesOverlay_71 o i l g xg.1.1 hd (fun _ _ _ => False) (fun _ _ _ w => w.elim) (fun y1 y2 y3 g' => y1 = o ∧ y2 = (i : Int) ∧ y3 = ((l + 1 : Nat) : Int) ∧ g' = sL g 343 44 (mx (gL g 343 44) (gI g 361 (4 * i + l)))) ?_ ⟨by omega, ?_⟩
          · rintro _ _ _ g' ⟨z0, z1, z2, z3⟩
            obtain ⟨y1, y2, y3⟩ := MS_mx z3 xg
            rw [z0, z1, z2]
            exact ih4 (l + 1) g' (by omega) y1 (mcF_tr cf y2) (mLd_mx z3 L) (by rw [y3, e, ← eN]; exact mxN_s (fun k => ((yL s o).1.getD i ([], [])).2.getD k 0) _ l)
          · rw [show ((i : Nat) : Int).toNat = i by omega]
            refine ⟨fun c => by omega, fun _ => ⟨by omega, by omega, by omega, ?_⟩⟩
            rw [show (4 * (i : Int) + (l : Int)).toNat = 4 * i + l by omega]
            exact sp_mixes xg.1.1 (fun g3 e3 => qV_i ⟨(MS_mx e3 xg).1.1.1, by omega, fun x8 e8 _ => ⟨rfl, rfl, by omega, e3⟩⟩)
      have lp3 : ∀ (n w : Nat) (g : zHp), w + n = 7 → MS g s → mcF h g → mLd g (yL s o) → gL g 343 44 = mxN (fun w => prF ((yL s o).1.getD i ([], [])) (w : Int)) (dgO s o (gL h 343 44) i) w → wpN G d M_X11_mixesOverlay 37 [(0, vR 343), (1, vI o), (2, vI (i : Int)), (3, vI (w : Int))] [] g Q := by
        intro n
        induction n with
        | zero =>
          intro w g hw xg cf L e
          obtain ⟨a1, a2, a3, a4, a5, a6, a7⟩ := ym_fd xg L op (i := i) (by omega)
          refine vc_X11_mixesOverlay_37 o i w g xg.1.1 hd (fun _ _ _ _ => False) (fun _ _ _ _ w => w.elim) (fun y1 y2 y3 g' => y1 = o ∧ y2 = (i : Int) ∧ y3 = ((0 : Nat) : Int) ∧ g' = sL g 343 44 (mx (gL g 343 44) (mV g i))) ?_ ⟨fun _ => sp_valueOf (by omega) xg.1.1 (MS_8 xg).1 a7 a2.1 a2.2.2 (fun r er => qL_i ⟨xg.1.1, sp_mixes xg.1.1 (fun g3 e3 => qV_i ⟨(MS_mx e3 xg).1.1.1, fun _ => ⟨rfl, rfl, rfl, by rw [← er]; exact e3⟩⟩)⟩), fun c => by omega⟩
          rintro _ _ _ g' ⟨z0, z1, z2, z3⟩
          obtain ⟨y1, y2, y3⟩ := MS_mx z3 xg
          rw [z0, z1, z2]
          refine lp4 _ 0 g' (Nat.zero_add _) y1 (mcF_tr cf y2) (mLd_mx z3 L) ?_
          rw [y3, e, show w = 7 by omega, a3, getD_e a1]
          rfl
        | succ n ih3 =>
          intro w g hw xg cf L e
          obtain ⟨a1, a2, a3, a4, a5, a6, a7⟩ := ym_fd xg L op (i := i) (by omega)
          have eN : prF ((yL s o).1.getD i ([], [])) (w : Int) = mPart g i (w : Int) := by rw [getD_e a1]; rfl
          refine vc_X11_mixesOverlay_37 o i w g xg.1.1 hd (fun y1 y2 y3 g' => y1 = o ∧ y2 = (i : Int) ∧ y3 = ((w + 1 : Nat) : Int) ∧ g' = sL g 343 44 (mx (gL g 343 44) (mPart g i (w : Int)))) ?_ (fun _ _ _ _ => False) (fun _ _ _ _ w => w.elim) ⟨fun c => by omega, fun _ => sp_partOf xg.1.1 a7 (fun r er => qI_i ⟨xg.1.1, sp_mixes xg.1.1 (fun g3 e3 => qV_i ⟨(MS_mx e3 xg).1.1.1, by omega, fun x18 e18 _ => ⟨rfl, rfl, by omega, by rw [← er]; exact e3⟩⟩)⟩)⟩
          rintro _ _ _ g' ⟨z0, z1, z2, z3⟩
          obtain ⟨y1, y2, y3⟩ := MS_mx z3 xg
          rw [z0, z1, z2]
          exact ih3 (w + 1) g' (by omega) y1 (mcF_tr cf y2) (mLd_mx z3 L) (by rw [y3, e, ← mxN_s, eN])
      refine vc_X11_mixesOverlay_27 o i g0 xg0.1.1 hd (fun y1 y2 y3 g' => y1 = o ∧ y2 = (i : Int) ∧ y3 = ((0 : Nat) : Int) ∧ g' = g0) ?_ ⟨fun c => by omega, fun _ _ => ⟨rfl, rfl, rfl, rfl⟩⟩
      rintro _ _ _ _ ⟨z0, z1, z2, z3⟩
      rw [z0, z1, z2, z3]
      exact lp3 7 0 g0 rfl xg0 cf0 L0 e0
  have lp1 : ∀ (m w : Nat) (g : zHp), w + m = 6 → MS g s → mcF h g → (0 < w → mLd g (yL s o)) → gL g 343 44 = mxN (fun w => rOvl s o (w : Int)) (gL h 343 44) w → wpN G d M_X11_mixesOverlay 2 [(0, vR 343), (1, vI o), (2, vI (w : Int))] [] g Q := by
    intro m
    induction m with
    | zero =>
      intro w g hw xg cf L e
      refine vc_X11_mixesOverlay_2 o w g xg.1.1 hd (fun _ _ _ => False) (fun _ _ _ w => w.elim) (fun y1 y2 g' => y1 = o ∧ y2 = ((0 : Nat) : Int) ∧ g' = g) ?_ ⟨fun _ _ => ⟨rfl, rfl, rfl⟩, fun c => by omega⟩
      rintro _ _ _ ⟨z0, z1, z2⟩
      rw [z0, z1, z2]
      exact lp2 (yL s o).1.length 0 g (by omega) xg cf (L (by omega)) (by rw [e, show w = 6 by omega]; rfl)
    | succ m ih =>
      intro w g hw xg cf L e
      refine vc_X11_mixesOverlay_2 o w g xg.1.1 hd (fun y1 y2 g' => y1 = o ∧ y2 = ((w + 1 : Nat) : Int) ∧ MS g' s ∧ mcF h g' ∧ mLd g' (yL s o) ∧ gL g' 343 44 = mxN (fun w => rOvl s o (w : Int)) (gL h 343 44) (w + 1)) ?_ (fun _ _ _ => False) (fun _ _ _ w => w.elim) ⟨fun c => by omega, fun _ => ym_overlay2 (by omega) xg op (by omega) (fun g2 x2 F2 L2 => qI_i ⟨x2.1.1, sp_mixes x2.1.1 (fun g3 e3 => qV_i ⟨(MS_mx e3 x2).1.1.1, by omega, fun x10 e10 _ => ⟨rfl, by omega, (MS_mx e3 x2).1, mcF_tr (mcF_tr cf (mcF_L F2)) (MS_mx e3 x2).2.1, mLd_mx e3 L2, ?_⟩⟩)⟩)⟩
      · rintro _ _ g' ⟨z0, z1, z2, z3, z4, z5⟩
        rw [z0, z1]
        exact ih (w + 1) g' (by omega) z2 z3 (fun _ => z4) z5
      · rw [(MS_mx e3 x2).2.2, mLf_44 F2, e, mxN_s]
  refine vc_X11_mixesOverlay_0 o h x.1.1 hd (fun y1 y2 g' => y1 = o ∧ y2 = ((0 : Nat) : Int) ∧ g' = h) ?_ (fun _ => ⟨rfl, rfl, rfl⟩)
  rintro _ _ _ ⟨z0, z1, z2⟩
  rw [z0, z1, z2]
  exact lp1 6 0 h rfl x mcF_rf (fun w => absurd w (by omega)) rfl
theorem ym_digest (hd : 7 ≤ d) (x : MS h s) (k : ∀ g, MS g s → mcF h g → Q (some (vL (rDig s))) g) : wpN G d M_X11_digest 0 (zar 0 [vR 343]) [] h Q := by
  have lp4 : ∀ (m w : Nat) (g : zHp), w + m = 8 → MS g s → mcF h g → gL g 343 44 = mxN (fun w => rCnt s (w : Int)) (mxN (fun t => ((sTs s t).length : Int)) (dgA s 4) 4) w → wpN G d M_X11_digest 105 [(0, vR 343), (1, vI (w : Int))] [] g Q := by
    intro m
    induction m with
    | zero =>
      intro w g hw xg cf e
      refine vc_X11_digest_105 w g xg.1.1 (by omega) (fun _ _ => False) (fun _ _ w => w.elim) ⟨fun _ => ?_, fun c => by omega⟩
      rw [e, show w = 8 by omega]
      exact k g xg cf
    | succ m ih =>
      intro w g hw xg cf e
      refine vc_X11_digest_105 w g xg.1.1 (by omega) (fun y1 g' => y1 = ((w + 1 : Nat) : Int) ∧ MS g' s ∧ mcF h g' ∧ gL g' 343 44 = mxN (fun w => rCnt s (w : Int)) (mxN (fun t => ((sTs s t).length : Int)) (dgA s 4) 4) (w + 1)) ?_ ⟨fun c => by omega, fun _ => ym_count2 (by omega) xg (fun g2 x2 F2 => qI_i ⟨x2.1.1, sp_mixes x2.1.1 (fun g3 e3 => qV_i ⟨(MS_mx e3 x2).1.1.1, by omega, fun x10 e10 _ => ⟨by omega, (MS_mx e3 x2).1, mcF_tr (mcF_tr cf (mcF_L F2)) (MS_mx e3 x2).2.1, ?_⟩⟩)⟩)⟩
      · rintro _ g' ⟨z0, z1, z2, z3⟩
        rw [z0]
        exact ih (w + 1) g' (by omega) z1 z2 z3
      · rw [(MS_mx e3 x2).2.2, mLf_44 F2, e, mxN_s (fun w => rCnt s (w : Int))]
  have lp3 : ∀ (m t : Nat) (g : zHp), t + m = 4 → MS g s → mcF h g → gL g 343 44 = mxN (fun t => ((sTs s t).length : Int)) (dgA s 4) t → wpN G d M_X11_digest 81 [(0, vR 343), (1, vI (t : Int))] [] g Q := by
    intro m
    induction m with
    | zero =>
      intro t g ht xg cf e
      refine vc_X11_digest_81 t g xg.1.1 (by omega) (fun _ _ => False) (fun _ _ w => w.elim) (fun y1 g' => y1 = ((0 : Nat) : Int) ∧ g' = g) ?_ ⟨fun _ _ => ⟨rfl, rfl⟩, fun c => by omega⟩
      rintro _ _ ⟨z0, z1⟩
      rw [z0, z1]
      exact lp4 8 0 g rfl xg cf (by rw [e, show t = 4 by omega]; rfl)
    | succ m ih =>
      intro t g ht xg cf e
      have et := (xg.1.2.2.2.2.2.2 t (by omega)).1.1
      refine vc_X11_digest_81 t g xg.1.1 (by omega) (fun y1 g' => y1 = ((t + 1 : Nat) : Int) ∧ g' = sL g 343 44 (mx (gL g 343 44) (gI g 352 t))) ?_ (fun _ _ => False) (fun _ _ w => w.elim) ⟨fun c => by omega, fun _ => ⟨by omega, ?_⟩⟩
      · rintro _ g' ⟨z0, z1⟩
        obtain ⟨y1, y2, y3⟩ := MS_mx z1 xg
        rw [z0]
        exact ih (t + 1) g' (by omega) y1 (mcF_tr cf y2) (by rw [y3, e, et, mxN_s (fun t => ((sTs s t).length : Int))])
      · rw [show ((t : Nat) : Int).toNat = t by omega]
        exact sp_mixes xg.1.1 (fun g3 e3 => qV_i ⟨(MS_mx e3 xg).1.1.1, by omega, fun x6 e6 _ => ⟨by omega, e3⟩⟩)
  have lp2 : ∀ (m o : Nat) (g : zHp), o + m = 4 → MS g s → mcF h g → gL g 343 44 = dgA s o → wpN G d M_X11_digest 45 [(0, vR 343), (1, vI (o : Int))] [] g Q := by
    intro m
    induction m with
    | zero =>
      intro o g ho xg cf e
      refine vc_X11_digest_45 o g xg.1.1 (by omega) (fun _ _ => False) (fun _ _ w => w.elim) (fun y1 g' => y1 = ((0 : Nat) : Int) ∧ g' = g) ?_ ⟨fun _ _ => ⟨rfl, rfl⟩, fun c => by omega⟩
      rintro _ _ ⟨z0, z1⟩
      rw [z0, z1]
      exact lp3 4 0 g rfl xg cf (by rw [e, show o = 4 by omega]; rfl)
    | succ m ih =>
      intro o g ho xg cf e
      refine vc_X11_digest_45 o g xg.1.1 (by omega) (fun y1 g' => y1 = ((o + 1 : Nat) : Int) ∧ MS g' s ∧ mcF h g' ∧ gL g' 343 44 = dgA s (o + 1)) ?_ (fun _ _ => False) (fun _ _ w => w.elim) ⟨fun c => by omega, fun _ => ym_pres (by omega) xg (fun np => qI_i ⟨xg.1.1, fun _ => sp_mixes xg.1.1 (fun g3 e3 => qV_i ⟨(MS_mx e3 xg).1.1.1, by omega, fun x11 e11 _ => ⟨by omega, (MS_mx e3 xg).1, mcF_tr cf (MS_mx e3 xg).2.1, ?_⟩⟩), fun w2 => absurd rfl w2⟩) (fun op => qI_i ⟨xg.1.1, fun w2 => absurd w2 (by omega), fun _ => ym_mixesOverlay (by omega) xg op (fun g2 x2 cf2 e2 => qV_i ⟨x2.1.1, by omega, fun x17 e17 _ => ⟨by omega, x2, mcF_tr cf cf2, ?_⟩⟩)⟩)⟩
      · rintro _ g' ⟨z0, z1, z2, z3⟩
        rw [z0]
        exact ih (o + 1) g' (by omega) z1 z2 z3
      · rw [(MS_mx e3 xg).2.2, e, dgA, cI_n np]
      · rw [e2, e, dgA, cI_p op]
  obtain ⟨l9, eB, _⟩ := MS_c x
  have l200 : gI h 344 200 ≤ 200 := (MS_8 x).1.1.2
  have lp1 : ∀ (m i : Nat) (g : zHp), i + m = (sB s).length → MS g s → mcF h g → gL g 343 44 = mxN (tg (sB s)) (mx 11 ((sB s).length : Int)) i → wpN G d M_X11_digest 18 [(0, vR 343), (1, vI (i : Int))] [] g Q := by
    intro m
    induction m with
    | zero =>
      intro i g hi xg cf e
      obtain ⟨l9, eB, _⟩ := MS_c xg
      have l9 : ((sB s).length : Int) = gI g 344 200 := l9
      refine vc_X11_digest_18 i g xg.1.1 (by omega) (fun _ _ => False) (fun _ _ w => w.elim) (fun y1 g' => y1 = ((0 : Nat) : Int) ∧ g' = g) ?_ (sp_size xg.1.1 (qI_i ⟨xg.1.1, fun _ _ => ⟨rfl, rfl⟩, fun c => by omega⟩))
      rintro _ _ ⟨z0, z1⟩
      rw [z0, z1]
      exact lp2 4 0 g rfl xg cf (by rw [e, show i = (sB s).length by omega]; rfl)
    | succ m ih =>
      intro i g hi xg cf e
      obtain ⟨l9, eB, _⟩ := MS_c xg
      have l9 : ((sB s).length : Int) = gI g 344 200 := l9
      have eB : sB s = lst (gI g 344) (gI g 344 200) := eB
      have l200 : gI g 344 200 ≤ 200 := (MS_8 xg).1.1.2
      have q := lst_tg (f := gI g 344) (n := gI g 344 200) (i := (i : Int)) (by omega) (by omega)
      rw [← eB, show ((i : Nat) : Int).toNat = i by omega] at q
      refine vc_X11_digest_18 i g xg.1.1 (by omega) (fun y1 g' => y1 = ((i + 1 : Nat) : Int) ∧ g' = sL g 343 44 (mx (gL g 343 44) (gI g 344 i))) ?_ (fun _ _ => False) (fun _ _ w => w.elim) (sp_size xg.1.1 (qI_i ⟨xg.1.1, fun c => by omega, fun _ => ⟨by omega, ?_⟩⟩))
      · rintro _ g' ⟨z0, z1⟩
        obtain ⟨y1, y2, y3⟩ := MS_mx z1 xg
        rw [z0]
        exact ih (i + 1) g' (by omega) y1 (mcF_tr cf y2) (by rw [y3, e, ← q, mxN_s])
      · rw [show ((i : Nat) : Int).toNat = i by omega]
        exact sp_mixes xg.1.1 (fun g3 e3 => qV_i ⟨(MS_mx e3 xg).1.1.1, by omega, fun x10 e10 _ => ⟨by omega, e3⟩⟩)
  refine vc_X11_digest_0 h x.1.1 (by omega) (fun y1 g' => y1 = ((0 : Nat) : Int) ∧ MS g' s ∧ mcF h g' ∧ gL g' 343 44 = mx 11 ((sB s).length : Int)) ?_ (fun h1 e1 => ?_)
  · rintro _ g' ⟨z0, z1, z2, z3⟩
    rw [z0]
    exact lp1 (sB s).length 0 g' (by omega) z1 z2 z3
  · obtain ⟨y1, y2, y3⟩ := MS_mx e1 x
    have l9 : ((sB s).length : Int) = gI h1 344 200 := (MS_c y1).1
    refine sp_size y1.1.1 (qI_i ⟨y1.1.1, sp_mixes y1.1.1 (fun g3 e3 => qV_i ⟨(MS_mx e3 y1).1.1.1, fun _ => ⟨rfl, (MS_mx e3 y1).1, mcF_tr y2 (MS_mx e3 y1).2.1, ?_⟩⟩)⟩)
    rw [(MS_mx e3 y1).2.2, y3, l9]
end MDIG
