/-! the model's queries of fields -/
section MQRY
variable {G : zG} {d : Nat} {Q : Option zV → zHp → Prop} {h : zHp} {s : zSt}
/-- the model lays an overlay out -/
theorem ym_lays {o : Int} (hd : 4 ≤ d) (x : MS h s) (op : ovP (sD s) o) (k : ∀ g, MS g s → mcF h g → mLd g (yL s o) → Q none g) : wpN G d M_X11_laysOut 0 (zar 0 [vR 343, vI o]) [] h Q := by
  have oe : o = ((o.toNat : Nat) : Int) := by have := op.1; omega
  rw [oe] at op
  rw [show zar 0 [vR 343, vI o] = zar 0 [vR 343, vI ((o.toNat : Nat) : Int)] by rw [← oe]]
  exact sp_mlay hd x.1.1 (MS_8 x).1 (MS_8 x).2 x.1.2.2.2.2.2.2 op (fun g s' F L => k g (MS_L F x) (mcF_L F) L)
theorem mLd_len {L : List (List Int × List Int) × (Int × Int)} (l : mLd h L) : (L.1.length : Int) = gI h 343 31 := by
  rw [show L.1 = mFs h from congrArg Prod.fst l.1, mFs_len]
  have := l.2
  omega
theorem ym_pres {o : Int} (hd : 1 ≤ d) (x : MS h s) (k0 : ¬ ovP (sD s) o → Q (some (vI 0)) h) (k1 : ovP (sD s) o → Q (some (vI 1)) h) : wpN G d M_X11_isPresent 0 (zar 0 [vR 343, vI o]) [] h Q := by
  obtain ⟨hP, h01⟩ := mHas_P (o := o) (MS_8 x).1 (MS_8 x).2
  refine sp_isPresent hd x.1.1 (fun r er => ?_)
  rcases h01 with q | q
  · rw [er, q]; exact k0 (fun w => by have := hP.mpr w; omega)
  · rw [er, q]; exact k1 (hP.mp q)
theorem ym_hasF {o i : Int} (hd : 5 ≤ d) (x : MS h s) (k0 : ∀ g, ¬ hF s o i → MS g s → mcF h g → Q (some (vI 0)) g) (k1 : ∀ g, hF s o i → MS g s → mcF h g → mLd g (yL s o) → Q (some (vI 1)) g) : wpN G d M_X11_hasField 0 (zar 0 [vR 343, vI o, vI i]) [] h Q := by
  refine vc_X11_hasField_0 o i h x.1.1 (by omega) (ym_pres (by omega) x (fun np => qI_i ⟨x.1.1, fun w => absurd rfl w, fun _ => k0 h (fun w => np w.1) x mcF_rf⟩) (fun op => qI_i ⟨x.1.1, fun _ => ym_lays (by omega) x op (fun g xg cf L => qV_i ⟨xg.1.1, ?_⟩), fun w => absurd w (by omega)⟩))
  have ln := mLd_len L
  have l60 := (hF_ok (MS_T xg).1 (MS_T xg).2 op).1
  refine ⟨by omega, sp_in xg.1.1 (fun r q => qI_i ⟨xg.1.1, by omega, ?_⟩)⟩
  rcases q with ⟨q1, q2, q3⟩ | ⟨q1, q3⟩
  · rw [q3]; exact k1 g ⟨op, q1, by omega⟩ xg cf L
  · rw [q3]; exact k0 g (fun f => q1 (by have := f.2.1; have := f.2.2; omega)) xg cf
theorem ym_fd {o : Int} {i : Nat} (x : MS h s) (L : mLd h (yL s o)) (op : ovP (sD s) o) (hi : i < (yL s o).1.length) : (yL s o).1[i]? = some (mFl h i) ∧ mfOk h i ∧ mV h i = fdV (sB s) (mFl h i) ∧ (2 ≤ gI h 356 i → mE h i = fdX (sB s) (mFl h i)) ∧ fdOk (sB s).length (mFl h i) ∧ (1 ≤ gI h 360 i ∧ gI h 360 i ≤ 4) ∧ i < 60 := by
  obtain ⟨hT, hD⟩ := MS_T x
  obtain ⟨l60, ok⟩ := hF_ok hT hD op
  obtain ⟨a, b, c, e, f, g⟩ := mfd (MS_8 x).1 (bM_s x) (show mFs h = (yL s o).1 from (congrArg Prod.fst L.1).symm) L.2 ok hi
  exact ⟨a, b, c, e, f, g, by omega⟩
theorem ym_field {o i w : Int} (hd : 6 ≤ d) (x : MS h s) (k : ∀ g, MS g s → mcF h g → Q (some (vI (rFld s o i w))) g) : wpN G d M_X11_field 0 (zar 0 [vR 343, vI o, vI i, vI w]) [] h Q := by
  have bad : ∀ g, ¬ (hF s o i ∧ 0 ≤ w ∧ w ≤ 6) → MS g s → mcF h g → Q (some (vI (-1001))) g := fun g nb xg cf => by
    have e : rFld s o i w = -1001 := cI_n nb
    rw [e] at k; exact k g xg cf
  refine vc_X11_field_0 o i w h x.1.1 (by omega) (ym_hasF (by omega) x (fun g nf xg cf => qI_i ⟨xg.1.1, fun _ => bad g (fun f => nf f.1) xg cf, fun w2 => absurd rfl w2⟩) (fun g f xg cf L => qI_i ⟨xg.1.1, fun w2 => absurd w2 (by omega), fun _ => sp_in xg.1.1 (fun r q => qI_i ⟨xg.1.1, fun z => bad g (fun f => by omega) xg cf, fun z => ?_⟩)⟩))
  obtain ⟨op, i0, i1⟩ := f
  obtain ⟨a1, a2, a3, a4, a5, a6, a7⟩ := ym_fd xg L op (i := i.toNat) (by omega)
  rw [show zar 0 [vR 343, vI i, vI w] = zar 0 [vR 343, vI ((i.toNat : Nat) : Int), vI w] by rw [show ((i.toNat : Nat) : Int) = i by omega]]
  refine sp_partOf xg.1.1 a7 (fun r er => qI_i ⟨xg.1.1, ?_⟩)
  have e : rFld s o i w = r := by
    rw [er]
    refine (cI_p ⟨⟨op, i0, i1⟩, by omega⟩).trans ?_
    rw [fA_e a1]; rfl
  rw [e] at k
  exact k g xg cf
theorem ym_value {o i : Int} (hd : 6 ≤ d) (x : MS h s) (k : ∀ g, MS g s → mcF h g → Q (some (vL (rVal s o i))) g) : wpN G d M_X11_value 0 (zar 0 [vR 343, vI o, vI i]) [] h Q := by
  refine vc_X11_value_0 o i h x.1.1 (by omega) (ym_hasF (by omega) x (fun g nf xg cf => qI_i ⟨xg.1.1, fun _ => ?_, fun w2 => absurd rfl w2⟩) (fun g f xg cf L => qI_i ⟨xg.1.1, fun w2 => absurd w2 (by omega), fun _ => ?_⟩))
  · have e : rVal s o i = -9223372036854775808 := cI_n nf
    rw [e] at k; exact k g xg cf
  · obtain ⟨op, i0, i1⟩ := f
    obtain ⟨a1, a2, a3, a4, a5, a6, a7⟩ := ym_fd xg L op (i := i.toNat) (by omega)
    rw [show zar 0 [vR 343, vI i] = zar 0 [vR 343, vI ((i.toNat : Nat) : Int)] by rw [show ((i.toNat : Nat) : Int) = i by omega]]
    refine sp_valueOf (by omega) xg.1.1 (MS_8 xg).1 a7 a2.1 a2.2.2 (fun r er => qL_i ⟨xg.1.1, ?_⟩)
    have e : rVal s o i = r := by
      rw [er, a3]
      refine (cI_p ⟨op, i0, i1⟩).trans ?_
      rw [fA_e a1]
    rw [e] at k
    exact k g xg cf
theorem ym_path {o i l : Int} (hd : 6 ≤ d) (x : MS h s) (k : ∀ g, MS g s → mcF h g → Q (some (vI (rPth s o i l))) g) : wpN G d M_X11_path 0 (zar 0 [vR 343, vI o, vI i, vI l]) [] h Q := by
  refine vc_X11_path_0 o i l h x.1.1 (by omega) (ym_hasF (by omega) x (fun g nf xg cf => qI_i ⟨xg.1.1, fun w2 => absurd rfl w2, fun _ => ?_⟩) (fun g f xg cf L => qI_i ⟨xg.1.1, fun _ => ?_, fun w2 => absurd w2 (by omega)⟩))
  · have e : rPth s o i l = -1001 := cI_n nf
    rw [e] at k; exact k g xg cf
  · obtain ⟨op, i0, i1⟩ := f
    obtain ⟨a1, a2, a3, a4, a5, a6, a7⟩ := ym_fd xg L op (i := i.toNat) (by omega)
    have e : rPth s o i l = if 0 ≤ l ∧ l < gI g 360 i.toNat then ((List.range (gI g 360 i.toNat).toNat).map (fun k => gI g 361 (4 * i.toNat + k))).getD l.toNat 0 else -1009 := by
      refine (cI_p ⟨op, i0, i1⟩).trans ?_
      rw [fA_e a1]; rfl
    refine ⟨by omega, by omega, sp_in xg.1.1 (fun r q => qI_i ⟨xg.1.1, fun z => ?_, fun z => ⟨by omega, by omega, by omega, ?_⟩⟩)⟩
    · rw [if_neg (by omega)] at e
      rw [e] at k; exact k g xg cf
    · rw [if_pos (by omega), rng_get (by omega), show 4 * i.toNat + l.toNat = (4 * i + l).toNat by omega] at e
      rw [e] at k; exact k g xg cf
theorem ym_fieldAt {o p : Int} (hd : 5 ≤ d) (x : MS h s) (k : ∀ g, MS g s → mcF h g → Q (some (vI (rFAt s o p))) g) : wpN G d M_X11_fieldAt 0 (zar 0 [vR 343, vI o, vI p]) [] h Q := by
  have l8 : ((sB s).length : Int) = gI h 344 200 := (MS_c x).1
  have b1 := (mdOk_e (MS_8 x).1).1
  have bad : ¬ (ovP (sD s) o ∧ 0 ≤ p ∧ p < (sB s).length) → Q (some (vI (-1001))) h := fun nb => by
    have e : rFAt s o p = -1001 := cI_n nb
    rw [e] at k; exact k h x mcF_rf
  refine vc_X11_fieldAt_0 o p h x.1.1 (by omega) (fun y1 y2 y3 g => y1 = o ∧ y2 = p ∧ y3 = ((0 : Nat) : Int) ∧ wpN G d M_X11_fieldAt 35 [(0, vR 343), (1, vI o), (2, vI p), (3, vI ((0 : Nat) : Int))] [] g Q) ?_ (ym_pres (by omega) x (fun np => qI_i ⟨x.1.1, fun _ => bad (fun w => np w.1), fun w => absurd rfl w⟩) (fun op => qI_i ⟨x.1.1, fun w => absurd w (by omega), fun _ => sp_size x.1.1 (qI_i ⟨x.1.1, by omega, sp_in x.1.1 (fun r q => qI_i ⟨x.1.1, fun z => ym_lays (by omega) x op (fun g xg cf L => qV_i ⟨xg.1.1, fun _ => ⟨rfl, rfl, rfl, ?_⟩⟩), fun z => bad (fun w => by have := w.2; omega)⟩)⟩)⟩))
  · rintro _ _ _ _ ⟨z0, z1, z2, z4⟩
    rw [z0, z1, z2]
    exact z4
  · have hp : 0 ≤ p ∧ p < (sB s).length := by omega
    have ln := mLd_len L
    have er : rFAt s o p = fSk ((yL s o).1.drop 0) p 0 := cI_p ⟨op, hp⟩
    rw [er] at k
    have loop : ∀ (m i : Nat), i + m = (yL s o).1.length → fSk ((yL s o).1.drop i) p i = fSk ((yL s o).1.drop 0) p 0 → wpN G d M_X11_fieldAt 35 [(0, vR 343), (1, vI o), (2, vI p), (3, vI (i : Int))] [] g Q := by
      intro m
      induction m with
      | zero =>
        intro i hi e
        refine vc_X11_fieldAt_35 o p i g xg.1.1 (by omega) (fun _ _ _ _ => False) (fun _ _ _ _ w => w.elim) ⟨fun w => ?_, fun w => by omega⟩
        rw [List.drop_eq_nil_of_le (by omega)] at e
        rw [← e] at k
        exact k g xg cf
      | succ m ih =>
        intro i hi e
        obtain ⟨a1, a2, a3, a4, a5, a6, a7⟩ := ym_fd xg L op (i := i) (by omega)
        have i1 := a2.1
        have q1 := i1.1
        unfold fSz at q1
        have q2 := i1.2
        have i9 := (mdOk_e (MS_8 xg).1).1
        rw [drop_c a1, fSk] at e
        have e : (if gI g 354 i ≤ p ∧ p < gI g 354 i + gI g 355 i then (i : Int) else fSk ((yL s o).1.drop (i + 1)) p (i + 1)) = fSk ((yL s o).1.drop 0) p 0 := e
        have ii : ((i : Nat) : Int).toNat = i := by omega
        refine vc_X11_fieldAt_35 o p i g xg.1.1 (by omega) (fun y1 y2 y3 g' => y1 = o ∧ y2 = p ∧ y3 = ((i + 1 : Nat) : Int) ∧ g' = g ∧ fSk ((yL s o).1.drop (i + 1)) p (i + 1) = fSk ((yL s o).1.drop 0) p 0) ?_ ⟨fun w => by omega, fun w => ⟨by omega, by omega, by omega, ?_⟩⟩
        · rintro _ _ _ _ ⟨z0, z1, z2, z3, z4⟩
          rw [z0, z1, z2, z3]
          exact ih (i + 1) (by omega) z4
        · rw [ii]
          refine ⟨by omega, by omega, sp_in xg.1.1 (fun r er => qI_i ⟨xg.1.1, fun z => ⟨by omega, fun x7 e7 _ => ⟨rfl, rfl, by omega, rfl, ?_⟩⟩, fun z => ?_⟩)⟩
          · rw [if_neg (by omega)] at e; exact e
          · rw [if_pos (by omega)] at e
            rw [← e] at k
            exact k g xg cf
    exact loop (yL s o).1.length 0 (by omega) rfl
end MQRY
