/-! more changes of the model -/
theorem upFs_f : ∀ (F : List (List Int × List Int)) (bs : List Int), (upFs F bs).2 = false → (upFs F bs).1 = bs
  | [], _, _ => rfl
  | fd :: F, bs, h => by
    rw [upFs] at h ⊢
    split at h
    · exact absurd h (fun w => by cases w)
    · rename_i q
      rw [if_neg q]
      exact upFs_f F bs h
theorem rndO_f {Ts : Nat → List (List Int)} {D : zDc} : ∀ o, (rndO Ts D o).2 = false → (rndO Ts D o).1 = D
  | 0, _ => rfl
  | o + 1, h => by
    rw [rndO] at h ⊢
    by_cases q : (ovA (rndO Ts D o).1 o).1 ≠ -1
    · rw [if_pos q] at h ⊢
      have h : ((rndO Ts D o).2 || (upFs (layD Ts (rndO Ts D o).1 o).1 (rndO Ts D o).1.1).2) = false := h
      have h1 : (rndO Ts D o).2 = false := by
        cases e : (rndO Ts D o).2
        · rfl
        · rw [e] at h; cases h
      have h2 : (upFs (layD Ts (rndO Ts D o).1 o).1 (rndO Ts D o).1.1).2 = false := by
        rw [h1] at h; exact h
      have e1 := rndO_f o h1
      have e2 := upFs_f _ _ h2
      show ((upFs (layD Ts (rndO Ts D o).1 o).1 (rndO Ts D o).1.1).1, (rndO Ts D o).1.2) = D
      rw [e2, e1]
    · rw [if_neg q] at h ⊢
      exact rndO_f o h
theorem updR_fix {Ts : Nat → List (List Int)} : ∀ (n k : Nat) (v : zDc), 0 ≤ (updR (rndD Ts) n k v).1 → rndD Ts (updR (rndD Ts) n k v).2 = ((updR (rndD Ts) n k v).2, false)
  | 0, k, v, h => by
    have h : (0 : Int) ≤ -1 := h
    omega
  | n + 1, k, v, h => by
    rw [updR] at h ⊢
    by_cases q : (rndD Ts v).2 = true
    · rw [if_pos q] at h ⊢
      exact updR_fix n (k + 1) _ h
    · rw [if_neg q]
      have q : (rndD Ts v).2 = false := by
        cases e : (rndD Ts v).2
        · rfl
        · exact absurd e q
      have e : (rndD Ts v).1 = v := rndO_f 4 q
      show rndD Ts (rndD Ts v).1 = ((rndD Ts v).1, false)
      rw [e]
      exact Prod.ext e q
theorem updR_again {Ts : Nat → List (List Int)} {n : Nat} {D D' : zDc} {r : Int} (e : updR (rndD Ts) n 0 D = (r, D')) (hr : 0 ≤ r) : updR (rndD Ts) 8 0 D' = (0, D') := by
  have := updR_fix (Ts := Ts) n 0 D (by rw [e]; exact hr)
  rw [e] at this
  have this : rndD Ts D' = (D', false) := this
  rw [updR, this, if_neg (fun w => by cases w)]
  rfl
section MCHG2
variable {G : zG} {d : Nat} {Q : Option zV → zHp → Prop} {h : zHp} {s : zSt}
theorem mSc_no : ¬ mSc 343 2 ∧ ¬ mSc 343 4 ∧ (∀ j, ¬ mSc 345 j) ∧ (∀ j, ¬ mSc 346 j) ∧ ∀ j, ¬ mSc 347 j := by
  refine ⟨?_, ?_, fun j => ?_, fun j => ?_, fun j => ?_⟩ <;> rintro (w | ⟨w, w2⟩ | ⟨w, w2⟩) <;> omega
theorem MM_u {g : zHp} {D : zDc} (F : zF4 mSc h g) (o8 : mdOk g 344 0) (x : MM h s D) : MM g s (mv g 344 0) := by
  obtain ⟨x1, ⟨o, x2, x3, x4⟩, x5, x6⟩ := x
  obtain ⟨n1, n2, n3, n4, n5⟩ := mSc_no
  obtain ⟨q1, q2, q3⟩ := mhist_F o F n1 n2 n3 n4 o8
  have e7 : ∀ j : Nat, j < 213 → gI g 347 (0 + j) = gI h 347 (0 + j) := fun j _ => F.I _ _ (n5 _)
  exact ⟨MK_F F (fun j hj w => mSt_ok.1 j hj (Or.inr w)) (fun b j h1 h2 w => mSt_ok.2.1 b j h1 h2 (Or.inr w)) x1, ⟨q1, rfl, by rw [q2]; exact x3, by rw [q3]; exact x4⟩, mdOk_cp x5 e7, by rw [mv_cp x5 e7]; exact x6⟩
theorem ym_refresh (hd : 8 ≤ d) (x : MS h s) (k : ∀ g, MS g (rRef s).2 → mcF h g → Q (some (vI (rRef s).1)) g) : wpN G d M_X11_refresh 0 (zar 0 [vR 343]) [] h Q := by
  refine vc_X11_refresh_0 h x.1.1 (by omega) (ym_keep (by omega) x (fun h2 xm cf2 _ => qV_i ⟨xm.1.1, ?_⟩))
  obtain ⟨s2, o2, d2⟩ := MM_8 xm
  refine ym_updates (by omega) s2 o2 d2 xm.1.2.2.2.2.2.2 (fun g r sg F og e => qI_i ⟨sg, fun hr => ?_, fun hr => ?_⟩)
  · have er : rRef s = (-1005, s) := by unfold rRef; rw [e, if_pos hr]
    rw [er] at k
    have cg : mcF h g := mcF_tr cf2 (mcF_4 F (fun b j hb w => mSt_ok.2.2 b j hb (Or.inr w)))
    exact ym_stays (by omega) (MM_u F og xm) (fun g' D' w _ _ _ => absurd rfl w) (fun g' _ ms cf => qI_i ⟨ms.1.1, fun _ => k g' ms (mcF_tr cg cf), fun w => absurd rfl w⟩)
  · have er : rRef s = (r, cmt s (mv g 344 0)) := by unfold rRef; rw [e, if_neg (by show ¬ r < 0; omega)]
    rw [er] at k
    have cg : mcF h g := mcF_tr cf2 (mcF_4 F (fun b j hb w => mSt_ok.2.2 b j hb (Or.inr w)))
    have ag := updR_again e hr
    refine ym_stays (by omega) (MM_u F og xm) (fun g' D' _ hh ms cf => qI_i ⟨ms.1.1, fun w => absurd w (by omega), fun _ => ?_⟩) (fun g' hh ms cf => ?_)
    · have eD : D' = mv g 344 0 := by
        rcases hh with ⟨_, w⟩ | ⟨_, r', w, _⟩
        · exact w
        · rw [ag] at w; exact (congrArg Prod.snd w).symm
      rw [eD] at ms
      exact k g' ms (mcF_tr cg cf)
    · rcases hh with w | ⟨_, w⟩
      · exact absurd w (by omega)
      · rw [ag] at w; exact absurd w (by show ¬ (0 : Int) < 0; omega)
theorem cM_len (x : MK h s) : ((sCl s).length : Int) = gI h 343 8 := by
  rw [← x.2.2.2.1.1]
  show ((lst (gI h 348) (gI h 343 8)).length : Int) = _
  rw [lst_len]; have := x.2.2.2.1.2.1; omega
theorem ym_paste {p : Int} (hd : 8 ≤ d) (x : MS h s) (k : ∀ g, MS g (rPst s p).2 → mcF h g → Q (some (vI (rPst s p).1)) g) : wpN G d M_X11_paste 0 (zar 0 [vR 343, vI p]) [] h Q := by
  have hS := x.1.1
  obtain ⟨h8, e8⟩ := MS_8 x
  obtain ⟨l8, _⟩ := MS_c x
  have l8 : ((sB s).length : Int) = gI h 344 200 := l8
  obtain ⟨b1, _⟩ := mdOk_e h8
  have lc := cM_len x.1
  have c32 := x.1.2.2.2.1.2
  refine vc_X11_paste_0 p h hS (by omega) (fun y1 y2 g => y1 = p ∧ y2 = ((0 : Nat) : Int) ∧ wpN G d M_X11_paste 63 [(0, vR 343), (1, vI p), (2, vI ((0 : Nat) : Int))] [] g Q) ?_ (sp_size hS (qI_i ⟨hS, sp_in hS (fun r1 q1 => qI_i ⟨hS, fun z => ⟨fun c0 => sp_size hS (qI_i ⟨hS, by omega, fun c => ?_, fun c => ?_⟩), fun c0 => ?_⟩, fun z => ?_⟩)⟩))
  · rintro _ _ _ ⟨z0, z1, z4⟩
    rw [z0, z1]
    exact z4
  · refine ym_keep (by omega) x (fun h26 xm cf26 e26 => qV_i ⟨xm.1.1, ?_⟩)
    obtain ⟨s26, o26, d26⟩ := MM_8 xm
    have n26 := e26 200
    have lc26 := cM_len xm.1
    have cl26 : lst (gI h26 348) (gI h26 343 8) = sCl s := xm.1.2.2.2.1.1
    refine sp_opens (by omega) s26 o26 (by omega) (by omega) (by omega) (by omega) (fun h30 s30 F30 e1 e2 e3 e4 e5 => qV_i ⟨s30, fun _ => ⟨rfl, rfl, ?_⟩⟩)
    have np : ∀ b j, b ≠ 344 → ¬ m344 b j := fun b j w z => w z
    have byc : byB (sCl s) := xm.1.2.1.2.1.1
    have loop : ∀ (m i : Nat) (g : zHp), i + m = (sCl s).length → zSh g → zF4 m344 h30 g → (∀ j : Nat, gI g 344 j = if p.toNat ≤ j ∧ j < p.toNat + i then gI h26 348 (j - p.toNat) else gI h30 344 j) → wpN G d M_X11_paste 63 [(0, vR 343), (1, vI p), (2, vI (i : Int))] [] g Q := by
      intro m
      induction m with
      | zero =>
        intro i g hi sg F o
        have k8 : gI g 343 8 = gI h26 343 8 := (F30.tr F).I _ _ (np _ _ (by omega))
        have xg : MM g s (insL (sB s) p.toNat (sCl s), (sO s).map (oOp p (sCl s).length)) := by
          rw [lc26]
          refine MM_ins xm (by omega) (by omega) lc26 (by omega) byc F30 e1 e2 e3 e4 e5 F (fun j hj => ?_) (fun j hj => ?_)
          · rw [o, if_pos (by omega), ← cl26, lst_get (by omega)]; congr 2; omega
          · rw [o, if_neg (by omega)]
        refine vc_X11_paste_63 p i g sg (by omega) (fun _ _ _ => False) (fun _ _ _ w => w.elim) ⟨fun _ => ?_, fun w => by omega⟩
        have er : rPst s p = chR s (insL (sB s) p.toNat (sCl s), (sO s).map (oOp p (sCl s).length)) aLen := by unfold rPst; rw [if_pos (by omega), if_neg (by omega), if_pos (by omega)]
        rw [er] at k
        refine ym_chg (h0 := h) (a := aLen) (by omega) xg (mcF_tr cf26 (mcF_d (F30.tr F))) (fun g' s' xs cf e _ _ => ⟨fun w => absurd w (by omega), fun _ => sp_size xs.1.1 (qI_i ⟨xs.1.1, ?_⟩)⟩) (fun g' xs cf e => ⟨fun _ => ?_, fun w => absurd rfl w⟩)
        · rw [e] at k
          rw [← (MS_c xs).1]
          exact k g' xs cf
        · rw [e] at k
          exact k g' xs cf
      | succ m ih =>
        intro i g hi sg F o
        have k8 : gI g 343 8 = gI h26 343 8 := (F30.tr F).I _ _ (np _ _ (by omega))
        have k48 : ∀ j, gI g 348 j = gI h26 348 j := fun j => (F30.tr F).I _ _ (np _ _ (by omega))
        refine vc_X11_paste_63 p i g sg (by omega) (fun y1 y2 g' => y1 = p ∧ y2 = ((i + 1 : Nat) : Int) ∧ g' = sI g 344 (p.toNat + i) (gI h26 348 i)) ?_ ⟨fun w => by omega, fun w => ⟨by omega, by omega, by omega, fun h11 e11 => ⟨by omega, fun x13 e13 _ => ⟨rfl, by omega, by rw [e11, k48, show (p + (i : Int)).toNat = p.toNat + i by omega, show ((i : Nat) : Int).toNat = i by omega]⟩⟩⟩⟩
        rintro _ _ _ ⟨z0, z1, z4⟩
        rw [z0, z1, z4]
        refine ih (i + 1) _ (by omega) sg (F.tr (zF4.sI rfl)) (fun j => ?_)
        rw [gI_sI]
        by_cases q : j = p.toNat + i
        · rw [if_pos ⟨rfl, q⟩, if_pos (by omega)]; congr 1; omega
        · rw [if_neg (fun w => q w.2), o]
          by_cases q2 : p.toNat ≤ j ∧ j < p.toNat + i
          · rw [if_pos q2, if_pos (by omega)]
          · rw [if_neg q2, if_neg (by omega)]
    exact loop (sCl s).length 0 h30 (by omega) s30 zF4.rf (fun j => by rw [if_neg (by omega)])
  · have e : rPst s p = (-1003, s) := by unfold rPst; rw [if_pos (by omega), if_neg (by omega), if_neg (by omega)]
    rw [e] at k; exact k h x mcF_rf
  · have e : rPst s p = (-1002, s) := by unfold rPst; rw [if_pos (by omega), if_pos (by omega)]
    rw [e] at k; exact k h x mcF_rf
  · have e : rPst s p = (-1001, s) := by unfold rPst; rw [if_neg (by omega)]
    rw [e] at k; exact k h x mcF_rf
theorem ym_pasteOver {p : Int} (hd : 8 ≤ d) (x : MS h s) (k : ∀ g, MS g (rPov s p).2 → mcF h g → Q (some (vI (rPov s p).1)) g) : wpN G d M_X11_pasteOver 0 (zar 0 [vR 343, vI p]) [] h Q := by
  have hS := x.1.1
  obtain ⟨h8, e8⟩ := MS_8 x
  obtain ⟨l8, _⟩ := MS_c x
  have l8 : ((sB s).length : Int) = gI h 344 200 := l8
  obtain ⟨b1, _⟩ := mdOk_e h8
  have lc := cM_len x.1
  have c32 := x.1.2.2.2.1.2
  refine vc_X11_pasteOver_0 p h hS (by omega) (fun y1 y2 g => y1 = p ∧ y2 = ((0 : Nat) : Int) ∧ wpN G d M_X11_pasteOver 52 [(0, vR 343), (1, vI p), (2, vI ((0 : Nat) : Int))] [] g Q) ?_ (sp_size hS (qI_i ⟨hS, sp_in hS (fun r1 q1 => qI_i ⟨hS, fun z => ⟨fun c0 => ⟨by omega, sp_size hS (qI_i ⟨hS, fun c => ?_, fun c => ?_⟩)⟩, fun c0 => ?_⟩, fun z => ?_⟩)⟩))
  · rintro _ _ _ ⟨z0, z1, z4⟩
    rw [z0, z1]
    exact z4
  · refine ym_keep (by omega) x (fun h26 xm cf26 e26 => qV_i ⟨xm.1.1, fun _ => ⟨rfl, rfl, ?_⟩⟩)
    obtain ⟨s26, o26, d26⟩ := MM_8 xm
    have n26 := e26 200
    have lc26 := cM_len xm.1
    have cl26 : lst (gI h26 348) (gI h26 343 8) = sCl s := xm.1.2.2.2.1.1
    have np : ∀ b j, b ≠ 344 → ¬ m344 b j := fun b j w z => w z
    have byc : byB (sCl s) := xm.1.2.1.2.1.1
    have loop : ∀ (m i : Nat) (g : zHp), i + m = (sCl s).length → zSh g → zF4 m344 h26 g → (∀ j : Nat, gI g 344 j = if p.toNat ≤ j ∧ j < p.toNat + i then gI h26 348 (j - p.toNat) else gI h26 344 j) → wpN G d M_X11_pasteOver 52 [(0, vR 343), (1, vI p), (2, vI (i : Int))] [] g Q := by
      intro m
      induction m with
      | zero =>
        intro i g hi sg F o
        have k8 : gI g 343 8 = gI h26 343 8 := F.I _ _ (np _ _ (by omega))
        have xg : MM g s (ovwL (sB s) p.toNat (sCl s), sO s) := by
          refine MM_ovw xm (by omega) (by omega) byc F (fun j hj => ?_) (fun j hj => ?_)
          · rw [o, if_pos (by omega), ← cl26, lst_get (by omega)]; congr 2; omega
          · rw [o, if_neg (by omega)]
        refine vc_X11_pasteOver_52 p i g sg (by omega) (fun _ _ _ => False) (fun _ _ _ w => w.elim) ⟨fun _ => ?_, fun w => by omega⟩
        have er : rPov s p = chR s (ovwL (sB s) p.toNat (sCl s), sO s) (fun s' => (sCl s').length) := by unfold rPov; rw [if_pos (by omega), if_neg (by omega), if_pos (by omega)]
        rw [er] at k
        refine ym_chg (h0 := h) (a := fun s' => (sCl s').length) (by omega) xg (mcF_tr cf26 (mcF_d F)) (fun g' s' xs cf e _ _ => ⟨fun w => absurd w (by omega), fun _ => ?_⟩) (fun g' xs cf e => ⟨fun _ => ?_, fun w => absurd rfl w⟩)
        · rw [e] at k
          rw [← cM_len xs.1]
          exact k g' xs cf
        · rw [e] at k
          exact k g' xs cf
      | succ m ih =>
        intro i g hi sg F o
        have k8 : gI g 343 8 = gI h26 343 8 := F.I _ _ (np _ _ (by omega))
        have k48 : ∀ j, gI g 348 j = gI h26 348 j := fun j => F.I _ _ (np _ _ (by omega))
        refine vc_X11_pasteOver_52 p i g sg (by omega) (fun y1 y2 g' => y1 = p ∧ y2 = ((i + 1 : Nat) : Int) ∧ g' = sI g 344 (p.toNat + i) (gI h26 348 i)) ?_ ⟨fun w => by omega, fun w => ⟨by omega, by omega, by omega, fun h11 e11 => ⟨by omega, fun x13 e13 _ => ⟨rfl, by omega, by rw [e11, k48, show (p + (i : Int)).toNat = p.toNat + i by omega, show ((i : Nat) : Int).toNat = i by omega]⟩⟩⟩⟩
        rintro _ _ _ ⟨z0, z1, z4⟩
        rw [z0, z1, z4]
        refine ih (i + 1) _ (by omega) sg (F.tr (zF4.sI rfl)) (fun j => ?_)
        rw [gI_sI]
        by_cases q : j = p.toNat + i
        · rw [if_pos ⟨rfl, q⟩, if_pos (by omega)]; congr 1; omega
        · rw [if_neg (fun w => q w.2), o]
          by_cases q2 : p.toNat ≤ j ∧ j < p.toNat + i
          · rw [if_pos q2, if_pos (by omega)]
          · rw [if_neg q2, if_neg (by omega)]
    exact loop (sCl s).length 0 h26 (by omega) s26 zF4.rf (fun j => by rw [if_neg (by omega)])
  · have e : rPov s p = (-1003, s) := by unfold rPov; rw [if_pos (by omega), if_neg (by omega), if_neg (by omega)]
    rw [e] at k; exact k h x mcF_rf
  · have e : rPov s p = (-1002, s) := by unfold rPov; rw [if_pos (by omega), if_pos (by omega)]
    rw [e] at k; exact k h x mcF_rf
  · have e : rPov s p = (-1001, s) := by unfold rPov; rw [if_neg (by omega)]
    rw [e] at k; exact k h x mcF_rf
end MCHG2
