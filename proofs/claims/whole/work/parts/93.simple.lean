/-! the simple calls, as values -/
def setTx (s : zSt) (t : List Int) : zSt := mkS t (sCl s) (sMk s) (sD s) (sPa s) (sFu s) (sFo s) (sTs s)
def setCl (s : zSt) (t : List Int) : zSt := mkS (sTx s) t (sMk s) (sD s) (sPa s) (sFu s) (sFo s) (sTs s)
def setMk (s : zSt) (t : List Int) : zSt := mkS (sTx s) (sCl s) t (sD s) (sPa s) (sFu s) (sFo s) (sTs s)
def setFo (s : zSt) (p : Int) : zSt := mkS (sTx s) (sCl s) (sMk s) (sD s) (sPa s) (sFu s) p (sTs s)
def rTyp (s : zSt) (l : Int) : Int × zSt := if 0 ≤ l ∧ l ≤ 127 then (if (sTx s).length = 120 then (-1003, s) else ((sTx s).length + 1, setTx s (sTx s ++ [l]))) else (-1001, s)
def rClr (s : zSt) : Int × zSt := ((sTx s).length, setTx s [])
def rCop (s : zSt) (i n : Int) : Int × zSt := if 0 ≤ i ∧ i ≤ (sB s).length ∧ 0 ≤ n ∧ n ≤ 32 ∧ i + n ≤ (sB s).length then (n, setCl s (seg (sB s) i n)) else (-1001, s)
def rMrk (s : zSt) : Int × zSt := ((sB s).length, setMk s (sB s))
def rFol (s : zSt) (p : Int) : Int × zSt := (sFo s, setFo s p)
def rByt (s : zSt) (i : Int) : Int := if 0 ≤ i ∧ i < (sB s).length then tg (sB s) i.toNat else -1001
def rUnd (s : zSt) : Int × zSt := if (sPa s).length = 0 then (-1002, s) else ((sPa s).dropLast.length, mkS (sTx s) (sCl s) (sMk s) ((sPa s).getLast?.getD (sD s)) (sPa s).dropLast (sD s :: sFu s) (sFo s) (sTs s))
def rRed (s : zSt) : Int × zSt := match sFu s with
  | [] => (-1002, s)
  | x :: r => (r.length, mkS (sTx s) (sCl s) (sMk s) x (sPa s ++ [sD s]) r (sFo s) (sTs s))
theorem byT_app {t : List Int} {l : Int} (h : byT t) (hl : 0 ≤ l ∧ l ≤ 127) : byT (t ++ [l]) := fun c hc => by
  rcases List.mem_append.mp hc with w | w
  · exact h c w
  · rw [List.mem_singleton.mp w]; exact hl
theorem byB_seg {t : List Int} {i n : Int} (h : byB t) : byB (seg t i n) := fun c hc => h c (List.mem_of_mem_drop (List.mem_of_mem_take hc))
theorem seg_len {t : List Int} {i n : Int} (hn : n ≤ 32) : (seg t i n).length ≤ 32 := by
  unfold seg
  rw [List.length_take]
  omega
section XSIMPLE
variable {G : zG} {d : Nat} {Q : Option zV → zHp → Prop} {h : zHp} {s : zSt}
theorem XS_by (x : XS h s) : byB (sB s) := by
  have := (dvOk_8 (XS_8 x).1).2.1
  rw [(XS_8 x).2.1] at this
  exact this
theorem reg_F {P : Nat → Prop} {h' : zHp} {a b : Nat} (F : zF3 P h h') (n1 : ¬ P a) (n2 : ¬ P b) (k : rOk h a) : lst (gI h' b) (gI h' a 1) = lst (gI h b) (gI h a 1) ∧ rOk h' a :=
  ⟨lst_eq ((F a n1).1 1) (fun j _ => (F b n2).1 j), rOk_c (F a n1).1 k⟩
/-- the state over a change below the documents -/
theorem XS_P {P : Nat → Prop} {h' : zHp} {s' : zSt} (F : zF3 P h h') (hS : zSh h') (hp : ∀ b, 8 ≤ b → b ≤ 210 → ¬ P b) (e10 : gR h' 1 10 = gR h 1 10) (x : XS h s) (q : sOk2 s') (eD : sD s' = sD s) (eP : sPa s' = sPa s) (eF : sFu s' = sFu s) (eT : sTs s' = sTs s) (t : tX h' = sTx s' ∧ rOk h' 2) (c : cX h' = sCl s' ∧ rOk h' 4) (m : kX h' = sMk s' ∧ rOk h' 6) (f : gI h' 1 11 = sFo s') : XS h' s' := by
  obtain ⟨⟨_, x1, x2, x3, x4, x5, x9, x10, x11, x12⟩, xh⟩ := x
  have e80 : ∀ j, gR h' 80 j = gR h 80 j := (F 80 (hp _ (by omega) (by omega))).2.2
  refine ⟨⟨hS, q, t, c, m, f, ?_, by rw [e10]; exact x10, fun t ht => by have la := ztmp (x9 t ht).1; rw [e80, e10, (F _ (hp (gR h 80 t) (by omega) (by omega))).1 1]; exact x11 t ht, fun t u ht hu n => by rw [e80, e80]; exact x12 t u ht hu n⟩, ?_⟩
  · rw [eT]; exact xTs_F e80 (fun b j h1 h2 => (F b (hp b (by omega) h2)).1 j) x9
  · rw [eD, eP, eF]; exact (XH_F F (fun b h1 h2 => hp b h1 (by omega)) xh).1
theorem yx_type {l : Int} (hd : 1 ≤ d) (x : XS h s) (k : ∀ g, XS g (rTyp s l).2 → xcF h g → Q (some (vI (rTyp s l).1)) g) : wpN G d M_X10_type 0 (zar 0 [vR 1, vI l]) [] h Q := by
  have x0 := x
  obtain ⟨⟨xS, xo, ⟨x2, x3⟩, ⟨x4, x5⟩, ⟨x6, x7⟩, x8, _⟩, _⟩ := x
  refine sp_X10_type hd xS x3 (fun nb => ?_) (fun hb e => ?_) (fun h' hb e s' F et r' => ?_)
  · have e : rTyp s l = (-1001, s) := by unfold rTyp; rw [if_neg nb]
    rw [e] at k; exact k h x0 xcF_rf
  · rw [x2] at e
    have e : rTyp s l = (-1003, s) := by unfold rTyp; rw [if_pos hb, if_pos e]
    rw [e] at k; exact k h x0 xcF_rf
  · rw [x2] at e et
    have er : rTyp s l = (((sTx s).length + 1 : Int), setTx s (sTx s ++ [l])) := by unfold rTyp; rw [if_pos hb, if_neg (by omega)]
    rw [er] at k
    rw [x2]
    have c := reg_F F (a := 4) (b := 5) (by omega) (by omega) x5
    have m := reg_F F (a := 6) (b := 7) (by omega) (by omega) x7
    exact k h' (XS_P F s' (fun b h1 h2 => by omega) ((F 1 (by omega)).2.2 10) x0 ⟨byT_app xo.1 hb, xo.2⟩ rfl rfl rfl rfl ⟨et, r'⟩ ⟨c.1.trans x4, c.2⟩ ⟨m.1.trans x6, m.2⟩ (((F 1 (by omega)).1 11).trans x8)) (xcF_3 F (fun b hb w => by omega))
theorem yx_clearText (x : XS h s) (k : ∀ g, XS g (rClr s).2 → xcF h g → Q (some (vI (rClr s).1)) g) : wpN G d M_X10_clearText 0 (zar 0 [vR 1]) [] h Q := by
  have x0 := x
  obtain ⟨⟨xS, xo, ⟨x2, x3⟩, ⟨x4, x5⟩, ⟨x6, x7⟩, x8, _⟩, _⟩ := x
  refine sp_X10_clearText xS x3 (fun h' s' F et r' => ?_)
  rw [x2]
  have c := reg_F F (a := 4) (b := 5) (by omega) (by omega) x5
  have m := reg_F F (a := 6) (b := 7) (by omega) (by omega) x7
  exact k h' (XS_P F s' (fun b h1 h2 => by omega) ((F 1 (by omega)).2.2 10) x0 ⟨fun c hc => (by cases hc), xo.2⟩ rfl rfl rfl rfl ⟨et, r'⟩ ⟨c.1.trans x4, c.2⟩ ⟨m.1.trans x6, m.2⟩ (((F 1 (by omega)).1 11).trans x8)) (xcF_3 F (fun b hb w => by omega))
theorem yx_copy {i n : Int} (hd : 2 ≤ d) (x : XS h s) (k : ∀ g, XS g (rCop s i n).2 → xcF h g → Q (some (vI (rCop s i n).1)) g) : wpN G d M_X10_copy 0 (zar 0 [vR 1, vI i, vI n]) [] h Q := by
  have x0 := x
  obtain ⟨h8, e8, _⟩ := XS_8 x
  obtain ⟨⟨xS, xo, ⟨x2, x3⟩, ⟨x4, x5⟩, ⟨x6, x7⟩, x8, _⟩, _⟩ := x
  have eb : (dv h 8).1 = sB s := by rw [e8]; rfl
  refine sp_X10_copy hd xS h8 (fun nb => ?_) (fun h' hb s' F ec n4 => ?_)
  · rw [eb] at nb
    have e : rCop s i n = (-1001, s) := by unfold rCop; rw [if_neg nb]
    rw [e] at k; exact k h x0 xcF_rf
  · rw [eb] at hb ec
    have er : rCop s i n = (n, setCl s (seg (sB s) i n)) := by unfold rCop; rw [if_pos hb]
    rw [er] at k
    have c := reg_F F (a := 2) (b := 3) (by omega) (by omega) x3
    have m := reg_F F (a := 6) (b := 7) (by omega) (by omega) x7
    exact k h' (XS_P F s' (fun b h1 h2 => by omega) ((F 1 (by omega)).2.2 10) x0 ⟨xo.1, ⟨byB_seg (XS_by x0), seg_len hb.2.2.2.1⟩, xo.2.2⟩ rfl rfl rfl rfl ⟨c.1.trans x2, c.2⟩ ⟨ec, by unfold rOk; rw [n4, show zlen (4 + 1) = 32 by decide +kernel]; omega⟩ ⟨m.1.trans x6, m.2⟩ (((F 1 (by omega)).1 11).trans x8)) (xcF_3 F (fun b hb w => by omega))
theorem yx_mark (hd : 2 ≤ d) (x : XS h s) (k : ∀ g, XS g (rMrk s).2 → xcF h g → Q (some (vI (rMrk s).1)) g) : wpN G d M_X10_mark 0 (zar 0 [vR 1]) [] h Q := by
  have x0 := x
  obtain ⟨h8, e8, _⟩ := XS_8 x
  obtain ⟨⟨xS, xo, ⟨x2, x3⟩, ⟨x4, x5⟩, ⟨x6, x7⟩, x8, _⟩, _⟩ := x
  have eb : (dv h 8).1 = sB s := by rw [e8]; rfl
  refine sp_X10_mark hd xS h8 (fun h' s' F ec r' => ?_)
  rw [eb] at ec ⊢
  have c := reg_F F (a := 2) (b := 3) (by omega) (by omega) x3
  have m := reg_F F (a := 4) (b := 5) (by omega) (by omega) x5
  exact k h' (XS_P F s' (fun b h1 h2 => by omega) ((F 1 (by omega)).2.2 10) x0 ⟨xo.1, xo.2.1, XS_by x0, xo.2.2.2⟩ rfl rfl rfl rfl ⟨c.1.trans x2, c.2⟩ ⟨m.1.trans x4, m.2⟩ ⟨ec, r'⟩ (((F 1 (by omega)).1 11).trans x8)) (xcF_3 F (fun b hb w => by omega))
theorem yx_follow {p : Int} (hp : p = 0 ∨ p = 1) (x : XS h s) (k : ∀ g, XS g (rFol s p).2 → xcF h g → Q (some (vI (rFol s p).1)) g) : wpN G d M_X10_follow 0 (zar 0 [vR 1, vI p]) [] h Q := by
  have x0 := x
  obtain ⟨⟨xS, xo, ⟨x2, x3⟩, ⟨x4, x5⟩, ⟨x6, x7⟩, x8, _⟩, _⟩ := x
  refine sp_X10_follow xS hp (by rw [x8]; exact xo.2.2.2) (fun h' s' F er ef => ?_)
  rw [x8]
  have t := reg_F F (a := 2) (b := 3) (by omega) (by omega) x3
  have c := reg_F F (a := 4) (b := 5) (by omega) (by omega) x5
  have m := reg_F F (a := 6) (b := 7) (by omega) (by omega) x7
  exact k h' (XS_P F s' (fun b h1 h2 => by omega) (er 10) x0 ⟨xo.1, xo.2.1, xo.2.2.1, hp⟩ rfl rfl rfl rfl ⟨t.1.trans x2, t.2⟩ ⟨c.1.trans x4, c.2⟩ ⟨m.1.trans x6, m.2⟩ ef) (xcF_3 F (fun b hb w => by omega))
theorem yx_patternFault (hd : 2 ≤ d) (x : XS h s) (k : ∀ g, XS g s → xcF h g → Q (some (vI (pf (sTx s)).1)) g) : wpN G d M_X10_patternFault 0 (zar 0 [vR 1]) [] h Q :=
  sp_X10_patternFault hd x.1.1 x.1.2.2.1.2 (fun h' s' F => by rw [x.1.2.2.1.1]; exact k h' (XS_hi F (fun b hb w => by unfold pI at w; omega) s' x) (xcF_3 F (fun b hb w => by unfold pI at w; omega)))
theorem yx_find {i : Int} (hd : 2 ≤ d) (x : XS h s) (k : ∀ g, XS g s → xcF h g → Q (some (vI (rFind (sTx s) (sB s) i))) g) : wpN G d M_X10_find 0 (zar 0 [vR 1, vI i]) [] h Q :=
  sp_X10_find hd x.1.1 x.1.2.2.1.2 (XS_8 x).1 (fun h' s' F => by rw [x.1.2.2.1.1, (XS_8 x).2.1]; exact k h' (XS_hi F (fun b hb w => by unfold pI at w; omega) s' x) (xcF_3 F (fun b hb w => by unfold pI at w; omega)))
theorem yx_matches (hd : 2 ≤ d) (x : XS h s) (k : ∀ g, XS g s → xcF h g → Q (some (vI (rMatches (sTx s) (sB s)))) g) : wpN G d M_X10_matches 0 (zar 0 [vR 1]) [] h Q :=
  sp_X10_matches hd x.1.1 x.1.2.2.1.2 (XS_8 x).1 (fun h' s' F => by rw [x.1.2.2.1.1, (XS_8 x).2.1]; exact k h' (XS_hi F (fun b hb w => by unfold pI at w; omega) s' x) (xcF_3 F (fun b hb w => by unfold pI at w; omega)))
theorem yx_length (x : XS h s) (k : ∀ g, XS g s → xcF h g → Q (some (vI (aLen s))) g) : wpN G d M_X10_length 0 (zar 0 [vR 1]) [] h Q :=
  sp_X10_length x.1.1 (XS_8 x).1 (by rw [(XS_8 x).2.1]; exact k h x xcF_rf)
theorem yx_byteAt {i : Int} (hd : 1 ≤ d) (x : XS h s) (k : ∀ g, XS g s → xcF h g → Q (some (vI (rByt s i))) g) : wpN G d M_X10_byteAt 0 (zar 0 [vR 1, vI i]) [] h Q :=
  sp_X10_byteAt hd x.1.1 (XS_8 x).1 (fun r er => by rw [er, (XS_8 x).2.1]; exact k h x xcF_rf)
theorem yx_difference {i : Int} (hd : 1 ≤ d) (x : XS h s) (k : ∀ g, XS g s → xcF h g → Q (some (vI (rDiff (sB s) (sMk s) i))) g) : wpN G d M_X10_difference 0 (zar 0 [vR 1, vI i]) [] h Q :=
  sp_X10_difference hd x.1.1 (XS_8 x).1 x.1.2.2.2.2.1.2 (by rw [(XS_8 x).2.1, x.1.2.2.2.2.1.1]; exact k h x xcF_rf)
theorem yx_distance (hd : 2 ≤ d) (x : XS h s) (k : ∀ g, XS g s → xcF h g → Q (some (vI (rDist (sB s) (sMk s)))) g) : wpN G d M_X10_distance 0 (zar 0 [vR 1]) [] h Q :=
  sp_X10_distance hd x.1.1 (XS_8 x).1 x.1.2.2.2.2.1.2 (fun h' s' F => by rw [(XS_8 x).2.1, x.1.2.2.2.2.1.1]; exact k h' (XS_hi F (fun b hb w => by unfold eI at w; omega) s' x) (xcF_3 F (fun b hb w => by unfold eI at w; omega)))
theorem hPaL (ho : hOk h) : ((hPast h).length : Int) = gI h 13 2 := by
  unfold hPast
  rw [List.length_map, List.length_range]
  have := ho.2.2.2.1
  omega
theorem hFuL (ho : hOk h) : ((hFut h).length : Int) = gI h 13 3 - gI h 13 2 := by
  unfold hFut
  rw [List.length_map, List.length_range]
  have := ho.2.2.2.2.1
  omega
theorem rUnd_c {P : List zDc} {z : zDc} (e : sPa s = P ++ [z]) : rUnd s = (((P.length : Nat) : Int), mkS (sTx s) (sCl s) (sMk s) z P (sD s :: sFu s) (sFo s) (sTs s)) := by
  unfold rUnd
  rw [e, if_neg (by rw [List.length_append]; show ¬ P.length + 1 = 0; omega), List.dropLast_concat]
  congr 2
  simp
theorem yx_undo (hd : 5 ≤ d) (x : XS h s) (k : ∀ g, XS g (rUnd s).2 → xcF h g → Q (some (vI (rUnd s).1)) g) : wpN G d M_X10_undo 0 (zar 0 [vR 1]) [] h Q := by
  have x0 := x
  obtain ⟨xk, ho, x2, x3, x4⟩ := x
  refine vc_X10_undo_0 h xk.1 hd (sp_X4_back (by omega) xk.1 ho (fun c => qI_i ⟨xk.1, fun _ => ?_, fun w => absurd rfl w⟩) (fun h' z s' F o' p e8 f => qI_i ⟨s', fun w => absurd w (by omega), fun _ => ?_⟩))
  · have l := hPaL ho
    rw [x3] at l
    have e : rUnd s = (-1002, s) := by unfold rUnd; rw [if_pos (by omega)]
    rw [e] at k; exact k h x0 xcF_rf
  · rw [x3] at p
    rw [rUnd_c p] at k
    rw [← hPaL o']
    exact k h' ⟨XK_h8 F s' xk, o', e8, rfl, by rw [f, x2, x4]; rfl⟩ (xcF_h8 F)
theorem yx_redo (hd : 5 ≤ d) (x : XS h s) (k : ∀ g, XS g (rRed s).2 → xcF h g → Q (some (vI (rRed s).1)) g) : wpN G d M_X10_redo 0 (zar 0 [vR 1]) [] h Q := by
  have x0 := x
  obtain ⟨xk, ho, x2, x3, x4⟩ := x
  refine vc_X10_redo_0 h xk.1 hd (sp_X4_forward (by omega) xk.1 ho (fun c => qI_i ⟨xk.1, fun _ => ?_, fun w => absurd rfl w⟩) (fun h' z s' F o' p e8 f => qI_i ⟨s', fun w => absurd w (by omega), fun _ => ?_⟩))
  · rw [x4] at c
    have e : rRed s = (-1002, s) := by unfold rRed; rw [c]
    rw [e] at k; exact k h x0 xcF_rf
  · rw [x4] at p
    have e : rRed s = ((((hFut h').length : Nat) : Int), mkS (sTx s) (sCl s) (sMk s) z (sPa s ++ [sD s]) (hFut h') (sFo s) (sTs s)) := by unfold rRed; rw [p]
    rw [e] at k
    have l := hFuL o'
    have o5 := o'.2.2.2
    refine ⟨by omega, ?_⟩
    rw [← l]
    exact k h' ⟨XK_h8 F s' xk, o', e8, by rw [f, x2, x3]; rfl, rfl⟩ (xcF_h8 F)
end XSIMPLE
