/-! the state of the editor as a value -/
abbrev zDc : Type := List Int × List (Int × Int)
abbrev zSt : Type := List Int × (List Int × (List Int × (zDc × (List zDc × (List zDc × (Int × (Nat → List (List Int))))))))
def sTx (s : zSt) : List Int := s.1
def sCl (s : zSt) : List Int := s.2.1
def sMk (s : zSt) : List Int := s.2.2.1
def sD (s : zSt) : zDc := s.2.2.2.1
def sPa (s : zSt) : List zDc := s.2.2.2.2.1
def sFu (s : zSt) : List zDc := s.2.2.2.2.2.1
def sFo (s : zSt) : Int := s.2.2.2.2.2.2.1
def sTs (s : zSt) : Nat → List (List Int) := s.2.2.2.2.2.2.2
def mkS (tx cl mk : List Int) (d : zDc) (pa fu : List zDc) (fo : Int) (ts : Nat → List (List Int)) : zSt := (tx, (cl, (mk, (d, (pa, (fu, (fo, ts)))))))
/-- a change is committed -/
def cmt (s : zSt) (D : zDc) : zSt := mkS (sTx s) (sCl s) (sMk s) D (trim12 (sPa s ++ [sD s])) [] (sFo s) (sTs s)
def sOk2 (s : zSt) : Prop := byT (sTx s) ∧ (byB (sCl s) ∧ (sCl s).length ≤ 32) ∧ byB (sMk s) ∧ (sFo s = 0 ∨ sFo s = 1)
/-- the draft, and that templates are apart -/
def xDs (h : zHp) : Prop := zT 369 (gR h 1 10) = (108, 2) ∧ (∀ t, t < 4 → gR h 80 t ≠ gR h 1 10 ∧ 0 ≤ gI h (gR h 80 t) 1) ∧ ∀ t u, t < 4 → u < 4 → t ≠ u → gR h 80 t ≠ gR h 80 u
/-- all but document and history -/
def XK (h : zHp) (s : zSt) : Prop := zSh h ∧ sOk2 s ∧ (tX h = sTx s ∧ rOk h 2) ∧ (cX h = sCl s ∧ rOk h 4) ∧ (kX h = sMk s ∧ rOk h 6) ∧ gI h 1 11 = sFo s ∧ xTs h (sTs s) ∧ xDs h
def XH (h : zHp) (pa fu : List zDc) (D : zDc) : Prop := hOk h ∧ dv h 8 = D ∧ hPast h = pa ∧ hFut h = fu
/-- the program holds the state -/
def XS (h : zHp) (s : zSt) : Prop := XK h s ∧ XH h (sPa s) (sFu s) (sD s)
/-- the model's cells are as they were -/
def xcF (h h' : zHp) : Prop := ∀ b, 343 ≤ b → (∀ j, gI h' b j = gI h b j) ∧ (∀ j, gL h' b j = gL h b j) ∧ ∀ j, gR h' b j = gR h b j
theorem xcF_rf {h : zHp} : xcF h h := fun _ _ => ⟨fun _ => rfl, fun _ => rfl, fun _ => rfl⟩
theorem xcF_tr {h h1 h2 : zHp} (a : xcF h h1) (b : xcF h1 h2) : xcF h h2 := fun x hx => ⟨fun j => ((b x hx).1 j).trans ((a x hx).1 j), fun j => ((b x hx).2.1 j).trans ((a x hx).2.1 j), fun j => ((b x hx).2.2 j).trans ((a x hx).2.2 j)⟩
theorem xcF_3 {P : Nat → Prop} {h h' : zHp} (F : zF3 P h h') (hp : ∀ b, 343 ≤ b → ¬ P b) : xcF h h' := fun b hb => F b (hp b hb)
theorem xcF_C {h h' : zHp} (F : xCf h h') : xcF h h' := fun b hb => ⟨fun j => (F.1 b j (by omega)).1, fun j => (F.1 b j (by omega)).2, fun j => F.2 b j (by omega)⟩
theorem xcF_R {h h' : zHp} (F : xRf h h') : xcF h h' := fun b hb => ⟨fun j => (F.1 b j (by omega)).1, fun j => (F.1 b j (by omega)).2, fun j => F.2 b j (by omega)⟩
section STATE
variable {h h' : zHp} {s : zSt}
theorem lst_c {a b : Nat} {f : zHp → List Int} (e1 : ∀ j, gI h' a j = gI h a j) (e2 : ∀ j, gI h' b j = gI h b j) : lst (gI h' b) (gI h' a 1) = lst (gI h b) (gI h a 1) := lst_eq (e1 1) (fun j _ => e2 j)
theorem rOk_c {a : Nat} (e : ∀ j, gI h' a j = gI h a j) (k : rOk h a) : rOk h' a := by unfold rOk; rw [e]; exact k
theorem XK_I (hS : zSh h') (e : ∀ b j, b ≤ 7 → gI h' b j = gI h b j) (e10 : gR h' 1 10 = gR h 1 10) (e80 : ∀ j, gR h' 80 j = gR h 80 j) (eT : ∀ b j, 81 ≤ b → b ≤ 210 → gI h' b j = gI h b j) (x : XK h s) : XK h' s := by
  obtain ⟨_, x1, ⟨x2, x3⟩, ⟨x4, x5⟩, ⟨x6, x7⟩, x8, x9, x10, x11, x12⟩ := x
  refine ⟨hS, x1, ⟨?_, rOk_c (fun j => e _ _ (by omega)) x3⟩, ⟨?_, rOk_c (fun j => e _ _ (by omega)) x5⟩, ⟨?_, rOk_c (fun j => e _ _ (by omega)) x7⟩, by rw [e _ _ (by omega)]; exact x8, xTs_F e80 eT x9, by rw [e10]; exact x10, fun t ht => by have la := ztmp (x9 t ht).1; rw [e80, e10, eT _ 1 (by omega) (by omega)]; exact x11 t ht, fun t u ht hu n => by rw [e80, e80]; exact x12 t u ht hu n⟩
  · rw [← x2]; exact lst_eq (e 2 1 (by omega)) (fun j _ => e 3 j (by omega))
  · rw [← x4]; exact lst_eq (e 4 1 (by omega)) (fun j _ => e 5 j (by omega))
  · rw [← x6]; exact lst_eq (e 6 1 (by omega)) (fun j _ => e 7 j (by omega))
theorem XH_F {pa fu : List zDc} {D : zDc} {P : Nat → Prop} (F : zF3 P h h') (hp : ∀ b, 8 ≤ b → b ≤ 79 → ¬ P b) (x : XH h pa fu D) : XH h' pa fu D ∧ hKept h' = hKept h := by
  obtain ⟨⟨o1, o2, o3, o4, o5, o6⟩, x2, x3, x4⟩ := x
  have e13 : ∀ j, gI h' 13 j = gI h 13 j := (F 13 (hp _ (by omega) (by omega))).1
  have e14 : ∀ j, gR h' 14 j = gR h 14 j := (F 14 (hp _ (by omega) (by omega))).2.2
  have doc : ∀ a, zT 369 a = (102, 3) → dv h' a = dv h a ∧ (dOk h a → dOk h' a) := fun a ha => by
    have q : ∀ b, dIn a b → ¬ P b := fun b hb => by
      have z := doc_hI8 ha hb
      exact hp b z.1 z.2
    exact ⟨dv_f3 a F q, dOk_f3 F q⟩
  have d8 := doc 8 zT_8
  refine ⟨⟨⟨fun i hi => ?_, fun i j hi hj e => o2 i j hi hj (by rw [← e14, ← e14]; exact e), d8.2 o3, by rw [e13]; exact o4, by rw [e13, e13]; exact o5, by rw [e13]; exact o6⟩, by rw [d8.1]; exact x2, ?_, ?_⟩, ?_⟩
  · rw [e14]
    obtain ⟨q1, q2, q3⟩ := o1 i hi
    exact ⟨q1, q2, (doc _ q1).2 q3⟩
  · rw [← x3]
    exact hPast_eq (e13 2) (fun i hi => by rw [e14]; exact (doc _ (o1 i (by omega)).1).1)
  · rw [← x4]
    exact hFut_eq (e13 2) (e13 3) (fun i hi hi2 => by rw [e14]; exact (doc _ (o1 i (by omega)).1).1) o4
  · unfold hKept
    rw [e13, e14]
    exact (doc _ (o1 _ (by omega)).1).1
/-- cells beyond the templates don't matter -/
theorem XS_hi {P : Nat → Prop} (F : zF3 P h h') (hp : ∀ b, b ≤ 210 → ¬ P b) (hS : zSh h') (x : XS h s) : XS h' s :=
  ⟨XK_I hS (fun b j hb => (F b (hp b (by omega))).1 j) ((F 1 (hp 1 (by omega))).2.2 10) (fun j => (F 80 (hp 80 (by omega))).2.2 j) (fun b j _ hb => (F b (hp b hb)).1 j) x.1, (XH_F F (fun b _ hb => hp b (by omega)) x.2).1⟩
theorem xCf_3 (F : xCf h h') : zF3 (fun b => 215 ≤ b ∧ b ≤ 340) h h' := fun b hb => ⟨fun j => (F.1 b j (by omega)).1, fun j => (F.1 b j (by omega)).2, fun j => F.2 b j (by omega)⟩
theorem XS_C (F : xCf h h') (x : XS h s) : XS h' s := XS_hi (xCf_3 F) (fun b hb w => by omega) (xCf_Sh F x.1.1) x
end STATE
section XEND
variable {G : zG} {d : Nat} {Q : Option zV → zHp → Prop} {h : zHp} {s : zSt}
/-- within a change: the kept state is the old one, the live document is D -/
def XM (h : zHp) (s : zSt) (D : zDc) : Prop := XK h s ∧ XH h (sPa s) (sFu s) D ∧ hKept h = sD s
theorem XM_R {h' : zHp} {D D' : zDc} (F : xRf h h') (o8 : dOk h' 8) (e8 : dv h' 8 = D') (x : XM h s D) : XM h' s D' := by
  obtain ⟨x1, ⟨⟨o1, o2, o3, o4, o5, o6⟩, x2, x3, x4⟩, x5⟩ := x
  have hS' : zSh h' := xRf_Sh F x1.1
  have e13 : ∀ j, gI h' 13 j = gI h 13 j := fun j => (F.1 13 j (by omega)).1
  have e14 : ∀ j, gR h' 14 j = gR h 14 j := fun j => F.2 14 j (by omega)
  have doc : ∀ a, zT 369 a = (102, 3) → a ≠ 8 → dv h' a = dv h a ∧ (dOk h a → dOk h' a) := fun a ha n8 => by
    have z := zdocs ha
    have F3 : zF3 (fun b => b = 10 ∨ 215 ≤ b) h h' := fun b hb => ⟨fun j => (F.1 b j (by omega)).1, fun j => (F.1 b j (by omega)).2, fun j => F.2 b j (by omega)⟩
    have q : ∀ b, dIn a b → ¬ (b = 10 ∨ 215 ≤ b) := fun b hb => by obtain ⟨q1, q2⟩ := hb; omega
    exact ⟨dv_f3 a F3 q, dOk_f3 F3 q⟩
  refine ⟨XK_I hS' (fun b j hb => (F.1 b j (by omega)).1) (F.2 1 10 (by omega)) (fun j => F.2 80 j (by omega)) (fun b j _ _ => (F.1 b j (by omega)).1) x1, ⟨⟨fun i hi => ?_, fun i j hi hj e => o2 i j hi hj (by rw [← e14, ← e14]; exact e), o8, by rw [e13]; exact o4, by rw [e13, e13]; exact o5, by rw [e13]; exact o6⟩, e8, ?_, ?_⟩, ?_⟩
  · rw [e14]
    obtain ⟨q1, q2, q3⟩ := o1 i hi
    exact ⟨q1, q2, (doc _ q1 q2).2 q3⟩
  · rw [← x3]
    exact hPast_eq (e13 2) (fun i hi => by rw [e14]; exact (doc _ (o1 i (by omega)).1 (o1 i (by omega)).2.1).1)
  · rw [← x4]
    exact hFut_eq (e13 2) (e13 3) (fun i hi hi2 => by rw [e14]; exact (doc _ (o1 i (by omega)).1 (o1 i (by omega)).2.1).1) o4
  · rw [← x5]
    unfold hKept
    rw [e13, e14]
    exact (doc _ (o1 _ (by omega)).1 (o1 _ (by omega)).2.1).1
theorem XK_h8 {h' : zHp} (F : zF3 hI8 h h') (hS : zSh h') (x : XK h s) : XK h' s :=
  XK_I hS (fun b j hb => (F b (by unfold hI8; omega)).1 j) ((F 1 (by unfold hI8; omega)).2.2 10) (fun j => (F 80 (by unfold hI8; omega)).2.2 j) (fun b j _ _ => (F b (by unfold hI8; omega)).1 j) x
theorem xcF_h8 {h' : zHp} (F : zF3 hI8 h h') : xcF h h' := xcF_3 F (fun b hb w => by unfold hI8 at w; omega)
/-- before a change -/
theorem yx_keep (hd : 3 ≤ d) (x : XS h s) (k : ∀ h', XM h' s (sD s) → xcF h h' → Q none h') : wpN G d M_X4_keep 0 (zar 0 [vR 13]) [] h Q := by
  obtain ⟨xk, ho, x2, x3, x4⟩ := x
  exact sp_X4_keep hd xk.1 ho (fun h' s' F o' p f d8 kp _ _ => k h' ⟨XK_h8 F s' xk, ⟨o', by rw [d8, x2], by rw [p, x3], by rw [f, x4]⟩, by rw [kp, x2]⟩ (xcF_h8 F))
/-- the end of a change -/
theorem yx_end {fo : Int} {D : zDc} (hd : 14 ≤ d) (x : XM h s D)
    (kS : ∀ g n D', ((fo = 0 ∧ n = 0 ∧ D' = D) ∨ (fo ≠ 0 ∧ updR (rndD (sTs s)) 8 0 D = (n, D') ∧ 0 ≤ n ∧ n < 8)) → XS g (cmt s D') → xcF h g → Q (some (vI n)) g)
    (kU : ∀ g, fo ≠ 0 → (updR (rndD (sTs s)) 8 0 D).1 = -1 → XS g s → xcF h g → Q (some (vI (-1005))) g) : wpN G d M_X10_endChange 0 (zar 0 [vR 1, vI fo]) [] h Q := by
  have eD : dv h 8 = D := x.2.1.2.1
  refine sp_endChange (rnd := rndD (sTs s)) (J := fun g => XM g s (dv g 8) ∧ xcF h g) (by omega) ⟨by rw [eD]; exact x, xcF_rf⟩ (fun g jg => jg.1.1.1) (fun g jg Q' kk => ?_) (fun g n jg hh => ?_) (fun g jg hf hu => ?_)
  · obtain ⟨xm, cf⟩ := jg
    exact sp_updateRound (by omega) xm.1.1 xm.2.1.1.2.2.1 rfl xm.1.2.2.2.2.2.2.1 (fun g' s' F o8 e8 => kk g' ⟨XM_R F o8 rfl xm, xcF_tr cf (xcF_R F)⟩ e8)
  · obtain ⟨⟨xk, ⟨ho, x2, x3, x4⟩, x5⟩, cf⟩ := jg
    refine sp_X4_commit (by omega) xk.1 ho (fun g' s' F o' p f d8 => qV_i ⟨s', kS g' n (dv g 8) ?_ ⟨XK_h8 F s' xk, o', d8, ?_, f⟩ (xcF_tr cf (xcF_h8 F))⟩)
    · rcases hh with ⟨a, b, c⟩ | ⟨a, b, c⟩
      · exact Or.inl ⟨a, b, by rw [c, eD]⟩
      · rw [eD] at b; exact Or.inr ⟨a, b, c⟩
    · rw [p, x3, x5]; rfl
  · obtain ⟨⟨xk, ⟨ho, x2, x3, x4⟩, x5⟩, cf⟩ := jg
    rw [eD] at hu
    exact sp_X4_takeBack (by omega) xk.1 ho (fun g' s' F o' p f d8 kp _ _ _ => qV_i ⟨s', kU g' hf hu ⟨XK_h8 F s' xk, o', by rw [d8, x5], by rw [p, x3], by rw [f, x4]⟩ (xcF_tr cf (xcF_h8 F))⟩)
end XEND
