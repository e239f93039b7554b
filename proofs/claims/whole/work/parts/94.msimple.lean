/-! the model's simple calls, as values -/
section MSIMPLE
variable {G : zG} {d : Nat} {Q : Option zV → zHp → Prop} {h : zHp} {s : zSt}
theorem MS_by (x : MS h s) : byB (sB s) := by
  have := (dvOk_m (MS_8 x).1).2.1
  rw [(MS_8 x).2] at this
  exact this
theorem bM_s (x : MS h s) : bM h = sB s := by unfold bM; rw [(MS_8 x).2]; rfl
theorem MS_P {P : Nat → Nat → Prop} {h' : zHp} {s' : zSt} (F : zF4 P h h') (p2 : ¬ P 343 2) (p4 : ¬ P 343 4) (pb : ∀ b j, (344 ≤ b ∧ b ≤ 346) ∨ (351 ≤ b ∧ b ≤ 352) → ¬ P b j) (x : MS h s) (q : sOk2 s') (eD : sD s' = sD s) (eP : sPa s' = sPa s) (eF : sFu s' = sFu s) (eT : sTs s' = sTs s) (t : tM h' = sTx s' ∧ mtOk h') (c : cM h' = sCl s' ∧ 0 ≤ gI h' 343 8 ∧ gI h' 343 8 ≤ 32) (m : kM h' = sMk s' ∧ kmOk h') (f : gI h' 343 6 = sFo s') : MS h' s' := by
  obtain ⟨⟨x0, x1, x2, x3, x4, x5, x9⟩, xh⟩ := x
  refine ⟨⟨F.Sh x0, q, t, c, m, f, ?_⟩, ?_⟩
  · rw [eT]; exact mTs_F F (fun j => pb 351 j (by omega)) (fun j => pb 352 j (by omega)) x9
  · rw [eD, eP, eF]; exact MH_F F p2 p4 (fun b j h1 h2 => pb b j (Or.inl ⟨h1, h2⟩)) xh
theorem mt_F {P : Nat → Nat → Prop} {h' : zHp} (F : zF4 P h h') (p1 : ¬ P 343 12) (p2 : ∀ j, ¬ P 350 j) (k : mtOk h) : tM h' = tM h ∧ mtOk h' := ⟨lst_eq (F.I _ _ p1) (fun j _ => F.I _ _ (p2 j)), by unfold mtOk; rw [F.I _ _ p1]; exact k⟩
theorem mc_F {P : Nat → Nat → Prop} {h' : zHp} (F : zF4 P h h') (p1 : ¬ P 343 8) (p2 : ∀ j, ¬ P 348 j) (k : 0 ≤ gI h 343 8 ∧ gI h 343 8 ≤ 32) : cM h' = cM h ∧ 0 ≤ gI h' 343 8 ∧ gI h' 343 8 ≤ 32 := ⟨lst_eq (F.I _ _ p1) (fun j _ => F.I _ _ (p2 j)), by rw [F.I _ _ p1]; exact k⟩
theorem mk_F {P : Nat → Nat → Prop} {h' : zHp} (F : zF4 P h h') (p1 : ¬ P 343 10) (p2 : ∀ j, ¬ P 349 j) (k : kmOk h) : kM h' = kM h ∧ kmOk h' := ⟨lst_eq (F.I _ _ p1) (fun j _ => F.I _ _ (p2 j)), by unfold kmOk; rw [F.I _ _ p1]; exact k⟩
theorem ym_type {l : Int} (hd : 1 ≤ d) (x : MS h s) (k : ∀ g, MS g (rTyp s l).2 → mcF h g → Q (some (vI (rTyp s l).1)) g) : wpN G d M_X11_type 0 (zar 0 [vR 343, vI l]) [] h Q := by
  have x0 := x
  obtain ⟨⟨xS, xo, ⟨x2, x3⟩, ⟨x4, x5⟩, ⟨x6, x7⟩, x8, _⟩, _⟩ := x
  refine sp_X11_type hd xS x3 (fun nb => ?_) (fun hb e => ?_) (fun h' hb e s' F et r' => ?_)
  · have e : rTyp s l = (-1001, s) := by unfold rTyp; rw [if_neg nb]
    rw [e] at k; exact k h x0 mcF_rf
  · rw [x2] at e
    have e : rTyp s l = (-1003, s) := by unfold rTyp; rw [if_pos hb, if_pos e]
    rw [e] at k; exact k h x0 mcF_rf
  · rw [x2] at e et
    have er : rTyp s l = (((sTx s).length + 1 : Int), setTx s (sTx s ++ [l])) := by unfold rTyp; rw [if_pos hb, if_neg (by omega)]
    rw [er] at k
    rw [x2]
    have c := mc_F F (by unfold mTy; omega) (fun j => by unfold mTy; omega) x5
    have m := mk_F F (by unfold mTy; omega) (fun j => by unfold mTy; omega) x7
    exact k h' (MS_P F (by unfold mTy; omega) (by unfold mTy; omega) (fun b j hb => by unfold mTy; omega) x0 ⟨byT_app xo.1 hb, xo.2⟩ rfl rfl rfl rfl ⟨et, r'⟩ ⟨c.1.trans x4, c.2⟩ ⟨m.1.trans x6, m.2⟩ ((F.I 343 6 (by unfold mTy; omega)).trans x8)) (mcF_4 F (fun b j hb => by unfold mTy; omega))
theorem ym_clearText (x : MS h s) (k : ∀ g, MS g (rClr s).2 → mcF h g → Q (some (vI (rClr s).1)) g) : wpN G d M_X11_clearText 0 (zar 0 [vR 343]) [] h Q := by
  have x0 := x
  obtain ⟨⟨xS, xo, ⟨x2, x3⟩, ⟨x4, x5⟩, ⟨x6, x7⟩, x8, _⟩, _⟩ := x
  refine sp_X11_clearText xS x3 (fun h' s' F et r' => ?_)
  rw [x2]
  have c := mc_F F (by unfold mTy; omega) (fun j => by unfold mTy; omega) x5
  have m := mk_F F (by unfold mTy; omega) (fun j => by unfold mTy; omega) x7
  exact k h' (MS_P F (by unfold mTy; omega) (by unfold mTy; omega) (fun b j hb => by unfold mTy; omega) x0 ⟨fun c hc => (by cases hc), xo.2⟩ rfl rfl rfl rfl ⟨et, r'⟩ ⟨c.1.trans x4, c.2⟩ ⟨m.1.trans x6, m.2⟩ ((F.I 343 6 (by unfold mTy; omega)).trans x8)) (mcF_4 F (fun b j hb => by unfold mTy; omega))
theorem ym_copy {i n : Int} (hd : 1 ≤ d) (hn : -2147483648 ≤ n ∧ n ≤ 2147483647) (x : MS h s) (k : ∀ g, MS g (rCop s i n).2 → mcF h g → Q (some (vI (rCop s i n).1)) g) : wpN G d M_X11_copy 0 (zar 0 [vR 343, vI i, vI n]) [] h Q := by
  have x0 := x
  obtain ⟨h8, e8⟩ := MS_8 x
  have eb := bM_s x
  obtain ⟨⟨xS, xo, ⟨x2, x3⟩, ⟨x4, x5⟩, ⟨x6, x7⟩, x8, _⟩, _⟩ := x
  refine sp_X11_copy hd xS h8 hn (fun nb => ?_) (fun h' hb s' F ec n4 => ?_)
  · rw [eb] at nb
    have e : rCop s i n = (-1001, s) := by unfold rCop; rw [if_neg nb]
    rw [e] at k; exact k h x0 mcF_rf
  · rw [eb] at hb ec
    have er : rCop s i n = (n, setCl s (seg (sB s) i n)) := by unfold rCop; rw [if_pos hb]
    rw [er] at k
    have t := mt_F F (by unfold mCl; omega) (fun j => by unfold mCl; omega) x3
    have m := mk_F F (by unfold mCl; omega) (fun j => by unfold mCl; omega) x7
    exact k h' (MS_P F (by unfold mCl; omega) (by unfold mCl; omega) (fun b j hb => by unfold mCl; omega) x0 ⟨xo.1, ⟨byB_seg (MS_by x0), seg_len hb.2.2.2.1⟩, xo.2.2⟩ rfl rfl rfl rfl ⟨t.1.trans x2, t.2⟩ ⟨ec, by omega⟩ ⟨m.1.trans x6, m.2⟩ ((F.I 343 6 (by unfold mCl; omega)).trans x8)) (mcF_4 F (fun b j hb => by unfold mCl; omega))
theorem ym_mark (hd : 1 ≤ d) (x : MS h s) (k : ∀ g, MS g (rMrk s).2 → mcF h g → Q (some (vI (rMrk s).1)) g) : wpN G d M_X11_mark 0 (zar 0 [vR 343]) [] h Q := by
  have x0 := x
  obtain ⟨h8, e8⟩ := MS_8 x
  have eb := bM_s x
  obtain ⟨⟨xS, xo, ⟨x2, x3⟩, ⟨x4, x5⟩, ⟨x6, x7⟩, x8, _⟩, _⟩ := x
  refine sp_X11_mark hd xS h8 (fun h' s' F ec r' => ?_)
  rw [eb] at ec ⊢
  have t := mt_F F (by unfold mMk; omega) (fun j => by unfold mMk; omega) x3
  have c := mc_F F (by unfold mMk; omega) (fun j => by unfold mMk; omega) x5
  exact k h' (MS_P F (by unfold mMk; omega) (by unfold mMk; omega) (fun b j hb => by unfold mMk; omega) x0 ⟨xo.1, xo.2.1, MS_by x0, xo.2.2.2⟩ rfl rfl rfl rfl ⟨t.1.trans x2, t.2⟩ ⟨c.1.trans x4, c.2⟩ ⟨ec, r'⟩ ((F.I 343 6 (by unfold mMk; omega)).trans x8)) (mcF_4 F (fun b j hb => by unfold mMk; omega))
theorem ym_follow {p : Int} (hp : p = 0 ∨ p = 1) (x : MS h s) (k : ∀ g, MS g (rFol s p).2 → mcF h g → Q (some (vI (rFol s p).1)) g) : wpN G d M_X11_follow 0 (zar 0 [vR 343, vI p]) [] h Q := by
  have x0 := x
  obtain ⟨⟨xS, xo, ⟨x2, x3⟩, ⟨x4, x5⟩, ⟨x6, x7⟩, x8, _⟩, _⟩ := x
  refine sp_X11_follow xS hp (by rw [x8]; exact xo.2.2.2) (fun h' s' F ef => ?_)
  rw [x8]
  have t := mt_F F (by omega) (fun j => by omega) x3
  have c := mc_F F (by omega) (fun j => by omega) x5
  have m := mk_F F (by omega) (fun j => by omega) x7
  exact k h' (MS_P F (by omega) (by omega) (fun b j hb => by omega) x0 ⟨xo.1, xo.2.1, xo.2.2.1, hp⟩ rfl rfl rfl rfl ⟨t.1.trans x2, t.2⟩ ⟨c.1.trans x4, c.2⟩ ⟨m.1.trans x6, m.2⟩ ef) (mcF_4 F (fun b j hb => by omega))
theorem MS_pt {h' : zHp} (F : zF4 mPt h h') (x : MS h s) : MS h' s ∧ mcF h h' := ⟨MS_F F (fun j hj => by unfold mPt; omega) (fun b j hb => by unfold mPt; omega) x, mcF_4 F (fun b j hb => by unfold mPt; omega)⟩
theorem ym_patternFault (hd : 2 ≤ d) (x : MS h s) (k : ∀ g, MS g s → mcF h g → Q (some (vI (pf (sTx s)).1)) g) : wpN G d M_X11_patternFault 0 (zar 0 [vR 343]) [] h Q :=
  sp_X11_patternFault hd x.1.1 x.1.2.2.1.2 (by rw [x.1.2.2.1.1]; exact x.1.2.1.1) (fun h' s' F _ => by rw [x.1.2.2.1.1]; exact k h' (MS_pt F x).1 (MS_pt F x).2)
theorem ym_find {i : Int} (hd : 3 ≤ d) (x : MS h s) (k : ∀ g, MS g s → mcF h g → Q (some (vI (rFind (sTx s) (sB s) i))) g) : wpN G d M_X11_find 0 (zar 0 [vR 343, vI i]) [] h Q :=
  sp_X11_find hd x.1.1 x.1.2.2.1.2 (by rw [x.1.2.2.1.1]; exact x.1.2.1.1) (MS_8 x).1 (fun h' s' F => by rw [x.1.2.2.1.1, bM_s x]; exact k h' (MS_pt F x).1 (MS_pt F x).2)
theorem ym_matches (hd : 3 ≤ d) (x : MS h s) (k : ∀ g, MS g s → mcF h g → Q (some (vI (rMatches (sTx s) (sB s)))) g) : wpN G d M_X11_matches 0 (zar 0 [vR 343]) [] h Q :=
  sp_X11_matches hd x.1.1 x.1.2.2.1.2 (by rw [x.1.2.2.1.1]; exact x.1.2.1.1) (MS_8 x).1 (fun h' s' F => by rw [x.1.2.2.1.1, bM_s x]; exact k h' (MS_pt F x).1 (MS_pt F x).2)
theorem ym_length (hd : 1 ≤ d) (x : MS h s) (k : ∀ g, MS g s → mcF h g → Q (some (vI (aLen s))) g) : wpN G d M_X11_length 0 (zar 0 [vR 343]) [] h Q :=
  sp_X11_length hd x.1.1 (MS_8 x).1 (by rw [bM_s x]; exact k h x mcF_rf)
theorem ym_byteAt {i : Int} (hd : 1 ≤ d) (x : MS h s) (k : ∀ g, MS g s → mcF h g → Q (some (vI (rByt s i))) g) : wpN G d M_X11_byteAt 0 (zar 0 [vR 343, vI i]) [] h Q :=
  sp_X11_byteAt hd x.1.1 (MS_8 x).1 (fun r er => by rw [er, bM_s x]; exact k h x mcF_rf)
theorem ym_difference {i : Int} (hd : 1 ≤ d) (x : MS h s) (k : ∀ g, MS g s → mcF h g → Q (some (vI (rDiff (sB s) (sMk s) i))) g) : wpN G d M_X11_difference 0 (zar 0 [vR 343, vI i]) [] h Q :=
  sp_X11_difference hd x.1.1 (MS_8 x).1 x.1.2.2.2.2.1.2 (by rw [x.1.2.2.2.2.1.1]; exact x.1.2.1.2.2.1) (by rw [bM_s x, x.1.2.2.2.2.1.1]; exact k h x mcF_rf)
theorem ym_distance (hd : 1 ≤ d) (x : MS h s) (k : ∀ g, MS g s → mcF h g → Q (some (vI (rDist (sB s) (sMk s)))) g) : wpN G d M_X11_distance 0 (zar 0 [vR 343]) [] h Q :=
  sp_X11_distance hd x.1.1 (MS_8 x).1 x.1.2.2.2.2.1.2 (fun h' s' F => by rw [bM_s x, x.1.2.2.2.2.1.1]; exact k h' (MS_F F (fun j hj => by unfold mEd; omega) (fun b j hb => by unfold mEd; omega) x) (mcF_4 F (fun b j hb => by unfold mEd; omega)))
theorem MK_hi {h' : zHp} (F : zF4 mHi h h') (x : MK h s) : MK h' s ∧ mcF h h' := ⟨MK_F F (fun j hj => by unfold mHi; omega) (fun b j h1 h2 => by unfold mHi; omega) x, mcF_4 F (fun b j hb => by unfold mHi; omega)⟩
theorem ym_undo (hd : 1 ≤ d) (x : MS h s) (k : ∀ g, MS g (rUnd s).2 → mcF h g → Q (some (vI (rUnd s).1)) g) : wpN G d M_X11_undo 0 (zar 0 [vR 343]) [] h Q := by
  have x0 := x
  obtain ⟨xk, ho, x2, x3, x4⟩ := x
  refine sp_X11_undo hd xk.1 ho (fun c => ?_) (fun h' z s' F o' p e8 f => ?_)
  · rw [x3] at c
    have e : rUnd s = (-1002, s) := by unfold rUnd; rw [if_pos (by rw [c]; rfl)]
    rw [e] at k; exact k h x0 mcF_rf
  · rw [x3] at p
    rw [rUnd_c p] at k
    exact k h' ⟨(MK_hi F xk).1, o', e8, rfl, by rw [f, x2, x4]; rfl⟩ (MK_hi F xk).2
theorem ym_redo (hd : 1 ≤ d) (x : MS h s) (k : ∀ g, MS g (rRed s).2 → mcF h g → Q (some (vI (rRed s).1)) g) : wpN G d M_X11_redo 0 (zar 0 [vR 343]) [] h Q := by
  have x0 := x
  obtain ⟨xk, ho, x2, x3, x4⟩ := x
  refine sp_X11_redo hd xk.1 ho (fun c => ?_) (fun h' z s' F o' p e8 f => ?_)
  · rw [x4] at c
    have e : rRed s = (-1002, s) := by unfold rRed; rw [c]
    rw [e] at k; exact k h x0 mcF_rf
  · rw [x4] at p
    have e : rRed s = ((((mFut h').length : Nat) : Int), mkS (sTx s) (sCl s) (sMk s) z (sPa s ++ [sD s]) (mFut h') (sFo s) (sTs s)) := by unfold rRed; rw [p]
    rw [e] at k
    exact k h' ⟨(MK_hi F xk).1, o', e8, by rw [f, x2, x3]; rfl, rfl⟩ (MK_hi F xk).2
end MSIMPLE
