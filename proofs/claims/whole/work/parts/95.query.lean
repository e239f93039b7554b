/-! queries of fields -/
def yL (s : zSt) (o : Int) : List (List Int × List Int) × (Int × Int) := layD (sTs s) (sD s) o.toNat
def hF (s : zSt) (o i : Int) : Prop := ovP (sD s) o ∧ 0 ≤ i ∧ i < (yL s o).1.length
def fA (s : zSt) (o i : Int) : List Int × List Int := (yL s o).1.getD i.toNat ([], [])
noncomputable def cI {α : Type} (p : Prop) (a b : α) : α := @ite α p (Classical.propDecidable p) a b
theorem cI_p {α : Type} {p : Prop} {a b : α} (h : p) : cI p a b = a := by unfold cI; rw [if_pos h]
theorem cI_n {α : Type} {p : Prop} {a b : α} (h : ¬ p) : cI p a b = b := by unfold cI; rw [if_neg h]
def prF (fd : List Int × List Int) (w : Int) : Int := if w = 0 then fd.1.getD 0 0 else if w = 1 then fd.1.getD 1 0 else if w = 2 then fd.1.getD 2 0 else if w = 3 then fd.1.getD 3 0 else if w = 4 then fd.1.getD 4 0 else if w = 5 then fd.1.getD 5 0 else fd.1.getD 6 0
noncomputable def rFld (s : zSt) (o i w : Int) : Int := cI (hF s o i ∧ 0 ≤ w ∧ w ≤ 6) (prF (fA s o i) w) (-1001)
noncomputable def rVal (s : zSt) (o i : Int) : Int := cI (hF s o i) (fdV (sB s) (fA s o i)) (-9223372036854775808)
noncomputable def rPth (s : zSt) (o i l : Int) : Int := cI (hF s o i) (if 0 ≤ l ∧ l < (fA s o i).1.getD 6 0 then (fA s o i).2.getD l.toNat 0 else -1009) (-1001)
def fSk : List (List Int × List Int) → Int → Nat → Int
  | [], _, _ => -1009
  | fd :: F, p, i => if fd.1.getD 0 0 ≤ p ∧ p < fd.1.getD 0 0 + fd.1.getD 1 0 then (i : Int) else fSk F p (i + 1)
noncomputable def rFAt (s : zSt) (o p : Int) : Int := cI (ovP (sD s) o ∧ 0 ≤ p ∧ p < (sB s).length) (fSk (yL s o).1 p 0) (-1001)
def rItm (s : zSt) (t : Int) : Int := if 0 ≤ t ∧ t ≤ 3 then ((sTs s t.toNat).length : Nat) else -1001
theorem drop_c {α : Type} {F : List α} {i : Nat} {x : α} (e : F[i]? = some x) : F.drop i = x :: F.drop (i + 1) := by
  obtain ⟨hi, e⟩ := List.getElem?_eq_some_iff.mp e
  rw [List.drop_eq_getElem_cons hi, e]
theorem rng_get {f : Nat → Int} {n i : Nat} (hi : i < n) : ((List.range n).map f).getD i 0 = f i := by
  rw [List.getD_eq_getElem?_getD, List.getElem?_map, List.getElem?_range hi]; rfl
section QRY
variable {G : zG} {d : Nat} {Q : Option zV → zHp → Prop} {h : zHp} {s : zSt}
theorem yx_items {t : Int} (hd : 1 ≤ d) (x : XS h s) (k : ∀ g, XS g s → xcF h g → Q (some (vI (rItm s t))) g) : wpN G d M_X10_items 0 (zar 0 [vR 1, vI t]) [] h Q := by
  refine vc_X10_items_0 t h x.1.1 hd (sp_X10_isWithin x.1.1 (fun r q => qI_i ⟨x.1.1, fun z => ?_, fun z => ⟨by omega, ?_⟩⟩))
  · have e : rItm s t = -1001 := by unfold rItm; rw [if_neg (by omega)]
    rw [e] at k; exact k h x xcF_rf
  · obtain ⟨a, b, c⟩ := x.1.2.2.2.2.2.2.1 t.toNat (by omega)
    have e : rItm s t = gI h (gR h 80 t.toNat) 1 := by
      unfold rItm
      rw [if_pos (by omega), ← b, xT_len]
      have := (x.1.2.2.2.2.2.2.2.2.1 t.toNat (by omega)).2
      omega
    rw [e] at k
    exact ⟨a, k h x xcF_rf⟩
theorem ym_items {t : Int} (hd : 1 ≤ d) (x : MS h s) (k : ∀ g, MS g s → mcF h g → Q (some (vI (rItm s t))) g) : wpN G d M_X11_items 0 (zar 0 [vR 343, vI t]) [] h Q := by
  refine vc_X11_items_0 t h x.1.1 hd (sp_in x.1.1 (fun r q => qI_i ⟨x.1.1, fun z => ?_, fun z => ⟨by omega, ?_⟩⟩))
  · have e : rItm s t = -1001 := by unfold rItm; rw [if_neg (by omega)]
    rw [e] at k; exact k h x mcF_rf
  · obtain ⟨a, b⟩ := x.1.2.2.2.2.2.2 t.toNat (by omega)
    have e : rItm s t = gI h 352 t.toNat := by
      unfold rItm
      rw [if_pos (by omega), a.1]
    rw [e] at k
    exact k h x mcF_rf
theorem yx_hasF {o i : Int} (hd : 12 ≤ d) (x : XS h s) (k0 : ∀ g, ¬ hF s o i → XS g s → xcF h g → Q (some (vI 0)) g) (k1 : ∀ g, hF s o i → XS g s → xcF h g → xLd g (yL s o) → Q (some (vI 1)) g) : wpN G d M_X10_layOutField 0 (zar 0 [vR 1, vI o, vI i]) [] h Q := by
  refine vc_X10_layOutField_0 o i h x.1.1 (by omega) (yx_layOut (by omega) x (fun np => qI_i ⟨x.1.1, fun _ => k0 h (fun w => np w.1) x xcF_rf, fun w => absurd rfl w⟩) (fun g op xg cf L _ => qI_i ⟨xg.1.1, fun w => absurd w (by omega), fun _ => ?_⟩))
  have L' : xLd g (yL s o) := L
  have ln : ((yL s o).1.length : Int) = gI g 215 1 := by
    rw [show (yL s o).1 = xFs g from congrArg Prod.fst L'.1, xFs_len]
    have := L'.2
    omega
  refine ⟨fun w => k0 g (fun f => ?_) xg cf, fun w => ⟨fun w2 => k0 g (fun f => ?_) xg cf, fun w2 => k1 g ⟨op, w, by omega⟩ xg cf L'⟩⟩
  · have := f.2.1; omega
  · have := f.2.2; omega
theorem XS_T (x : XS h s) : (∀ t, t < 4 → tOk (sTs s t)) ∧ dvOk (sD s) := ⟨fun t ht => (x.1.2.2.2.2.2.2.1 t ht).2.2, by rw [← (XS_8 x).2.1]; exact dvOk_8 (XS_8 x).1⟩
theorem MS_T (x : MS h s) : (∀ t, t < 4 → tOk (sTs s t)) ∧ dvOk (sD s) := ⟨fun t ht => (x.1.2.2.2.2.2.2 t ht).2, by rw [← (MS_8 x).2]; exact dvOk_m (MS_8 x).1⟩
theorem hF_ok (hT : ∀ t, t < 4 → tOk (sTs s t)) (hD : dvOk (sD s)) {o : Int} (op : ovP (sD s) o) : (yL s o).1.length ≤ 60 ∧ ∀ fd ∈ (yL s o).1, fdOk (sB s).length fd := layD_ok hT hD (by have := op.1; have := op.2.1; omega) op.2.2
theorem fA_e {o i : Int} {fd : List Int × List Int} (e : (yL s o).1[i.toNat]? = some fd) : fA s o i = fd := by
  unfold fA
  rw [List.getD_eq_getElem?_getD, e]; rfl
theorem yx_fd {o : Int} {i : Nat} (x : XS h s) (L : xLd h (yL s o)) (op : ovP (sD s) o) (hi : i < (yL s o).1.length) : (yL s o).1[i]? = some (xFl h i) ∧ fOk h 9 (217 + 2 * i) ∧ fV h 9 (217 + 2 * i) = fdV (sB s) (xFl h i) ∧ (2 ≤ gI h (217 + 2 * i) 2 → fExp h 9 (217 + 2 * i) = fdX (sB s) (xFl h i)) ∧ fdOk (sB s).length (xFl h i) ∧ gI h (217 + 2 * i) 6 ≤ 4 ∧ i < 60 := by
  obtain ⟨hT, hD⟩ := XS_T x
  obtain ⟨l60, ok⟩ := hF_ok hT hD op
  have eb : (dv h 8).1 = sB s := by rw [(XS_8 x).2.1]; rfl
  obtain ⟨a, b, c, e, f, g⟩ := xfd (XS_8 x).1 eb (show xFs h = (yL s o).1 from (congrArg Prod.fst L.1).symm) L.2 ok hi
  exact ⟨a, b, c, e, f, g, by omega⟩
theorem yx_field {o i w : Int} (hd : 13 ≤ d) (x : XS h s) (k : ∀ g, XS g s → xcF h g → Q (some (vI (rFld s o i w))) g) : wpN G d M_X10_field 0 (zar 0 [vR 1, vI o, vI i, vI w]) [] h Q := by
  have bad : ∀ g, ¬ (hF s o i ∧ 0 ≤ w ∧ w ≤ 6) → XS g s → xcF h g → Q (some (vI (-1001))) g := fun g nb xg cf => by
    have e : rFld s o i w = -1001 := cI_n nb
    rw [e] at k; exact k g xg cf
  refine vc_X10_field_0 o i w h x.1.1 (by omega) (sp_X10_isWithin x.1.1 (fun r q => qI_i ⟨x.1.1, fun z => bad h (fun f => by omega) x xcF_rf, fun z => yx_hasF (by omega) x (fun g nf xg cf => qI_i ⟨xg.1.1, fun w2 => absurd rfl w2, fun _ => bad g (fun f => nf f.1) xg cf⟩) (fun g f xg cf L => qI_i ⟨xg.1.1, fun _ => ?_, fun w2 => absurd w2 (by omega)⟩)⟩))
  obtain ⟨op, i0, i1⟩ := f
  obtain ⟨a1, a2, a3, a4, a5, a6, a7⟩ := yx_fd xg L op (i := i.toNat) (by omega)
  refine ⟨by omega, sp_X3_property (zfds a7) xg.1.1 a2.2.2 (fun r er => qI_i ⟨xg.1.1, ?_⟩)⟩
  have e : rFld s o i w = r := by
    rw [er]
    refine (cI_p ⟨⟨op, i0, i1⟩, by omega⟩).trans ?_
    rw [fA_e a1]; rfl
  rw [e] at k
  exact k g xg cf
theorem yx_value {o i : Int} (hd : 13 ≤ d) (x : XS h s) (k : ∀ g, XS g s → xcF h g → Q (some (vL (rVal s o i))) g) : wpN G d M_X10_value 0 (zar 0 [vR 1, vI o, vI i]) [] h Q := by
  refine vc_X10_value_0 o i h x.1.1 (by omega) (yx_hasF (by omega) x (fun g nf xg cf => qI_i ⟨xg.1.1, fun _ => ?_, fun w2 => absurd rfl w2⟩) (fun g f xg cf L => qI_i ⟨xg.1.1, fun w2 => absurd w2 (by omega), fun _ => ?_⟩))
  · have e : rVal s o i = -9223372036854775808 := cI_n nf
    rw [e] at k; exact k g xg cf
  · obtain ⟨op, i0, i1⟩ := f
    obtain ⟨a1, a2, a3, a4, a5, a6, a7⟩ := yx_fd xg L op (i := i.toNat) (by omega)
    obtain ⟨r9, b9⟩ := x9ok (XS_8 xg).1
    refine ⟨by omega, sp_X0_read tT_9 (zfds a7) xg.1.1 r9 b9 a2.1 (fun r er => qL_i ⟨xg.1.1, ?_⟩)⟩
    have e : rVal s o i = r := by
      rw [er]
      refine (cI_p ⟨op, i0, i1⟩).trans ?_
      rw [fA_e a1, ← a3]; rfl
    rw [e] at k
    exact k g xg cf
theorem yx_path {o i l : Int} (hd : 13 ≤ d) (x : XS h s) (k : ∀ g, XS g s → xcF h g → Q (some (vI (rPth s o i l))) g) : wpN G d M_X10_path 0 (zar 0 [vR 1, vI o, vI i, vI l]) [] h Q := by
  refine vc_X10_path_0 o i l h x.1.1 (by omega) (yx_hasF (by omega) x (fun g nf xg cf => qI_i ⟨xg.1.1, fun w2 => absurd rfl w2, fun _ => ?_⟩) (fun g f xg cf L => qI_i ⟨xg.1.1, fun _ => ?_, fun w2 => absurd w2 (by omega)⟩))
  · have e : rPth s o i l = -1001 := cI_n nf
    rw [e] at k; exact k g xg cf
  · obtain ⟨op, i0, i1⟩ := f
    obtain ⟨a1, a2, a3, a4, a5, a6, a7⟩ := yx_fd xg L op (i := i.toNat) (by omega)
    refine ⟨by omega, sp_X3_pathName (zfds a7) xg.1.1 a6 (fun r er => qI_i ⟨xg.1.1, ?_⟩)⟩
    have e : rPth s o i l = r := by
      rw [er]
      refine (cI_p ⟨op, i0, i1⟩).trans ?_
      rw [fA_e a1]
      show (if 0 ≤ l ∧ l < gI g (217 + 2 * i.toNat) 6 then ((List.range (gI g (217 + 2 * i.toNat) 6).toNat).map (fun k => gI g (217 + 2 * i.toNat + 1) k)).getD l.toNat 0 else -1009) = _
      by_cases q : 0 ≤ l ∧ l < gI g (217 + 2 * i.toNat) 6
      · rw [if_pos q, if_pos q, rng_get (by omega)]
      · rw [if_neg q, if_neg q]
    rw [e] at k
    exact k g xg cf
theorem yx_fieldAt {o p : Int} (hd : 12 ≤ d) (x : XS h s) (k : ∀ g, XS g s → xcF h g → Q (some (vI (rFAt s o p))) g) : wpN G d M_X10_fieldAt 0 (zar 0 [vR 1, vI o, vI p]) [] h Q := by
  have l8 := (XS_8 x).2.2.1
  have bad : ¬ (ovP (sD s) o ∧ 0 ≤ p ∧ p < (sB s).length) → Q (some (vI (-1001))) h := fun nb => by
    have e : rFAt s o p = -1001 := cI_n nb
    rw [e] at k; exact k h x xcF_rf
  refine vc_X10_fieldAt_0 o p h x.1.1 (by omega) (fun y1 y2 y3 g => y1 = o ∧ y2 = p ∧ y3 = ((0 : Nat) : Int) ∧ wpN G d M_X10_fieldAt 28 [(0, vR 1), (1, vI o), (2, vI p), (3, vI ((0 : Nat) : Int))] [] g Q) ?_ (sp_X0_has tT_9 x.1.1 (fun r er => qI_i ⟨x.1.1, fun z => bad (fun w => ?_), fun z => yx_layOut (by omega) x (fun np => qI_i ⟨x.1.1, fun w => absurd rfl w, fun _ => bad (fun w => np w.1)⟩) (fun g op xg cf L _ => qI_i ⟨xg.1.1, fun _ _ => ⟨rfl, rfl, rfl, ?_⟩, fun w => absurd w (by omega)⟩)⟩))
  · rintro _ _ _ _ ⟨z0, z1, z2, z4⟩
    rw [z0, z1, z2]
    exact z4
  · rw [rHas, if_pos (by omega)] at er; omega
  · have hp : 0 ≤ p ∧ p < (sB s).length := by
      unfold rHas at er
      split at er
      · omega
      · omega
    have L' : xLd g (yL s o) := L
    have ln : ((yL s o).1.length : Int) = gI g 215 1 := by
      rw [show (yL s o).1 = xFs g from congrArg Prod.fst L'.1, xFs_len]
      have := L'.2
      omega
    have er : rFAt s o p = fSk ((yL s o).1.drop 0) p 0 := cI_p ⟨op, hp⟩
    rw [er] at k
    have loop : ∀ (m i : Nat), i + m = (yL s o).1.length → fSk ((yL s o).1.drop i) p i = fSk ((yL s o).1.drop 0) p 0 → wpN G d M_X10_fieldAt 28 [(0, vR 1), (1, vI o), (2, vI p), (3, vI (i : Int))] [] g Q := by
      intro m
      induction m with
      | zero =>
        intro i hi e
        refine vc_X10_fieldAt_28 o p i g xg.1.1 (by omega) (fun _ _ _ _ => False) (fun _ _ _ _ w => w.elim) ⟨fun w => ?_, fun w => by omega⟩
        rw [List.drop_eq_nil_of_le (by omega)] at e
        rw [← e] at k
        exact k g xg cf
      | succ m ih =>
        intro i hi e
        obtain ⟨a1, a2, a3, a4, a5, a6, a7⟩ := yx_fd xg L' op (i := i) (by omega)
        have i1 := a2.1
        have i8 := (XS_8 xg).1.1.2
        have i9 : gI g 9 1 ≤ 200 := i8
        rw [drop_c a1, fSk] at e
        have e : (if gI g (217 + 2 * i) 0 ≤ p ∧ p < gI g (217 + 2 * i) 0 + gI g (217 + 2 * i) 1 then (i : Int) else fSk ((yL s o).1.drop (i + 1)) p (i + 1)) = fSk ((yL s o).1.drop 0) p 0 := e
        have ii : ((i : Nat) : Int).toNat = i := by omega
        refine vc_X10_fieldAt_28 o p i g xg.1.1 (by omega) (fun y1 y2 y3 g' => y1 = o ∧ y2 = p ∧ y3 = ((i + 1 : Nat) : Int) ∧ g' = g ∧ fSk ((yL s o).1.drop (i + 1)) p (i + 1) = fSk ((yL s o).1.drop 0) p 0) ?_ ⟨fun w => by omega, fun w => ⟨by omega, ?_⟩⟩
        · rintro _ _ _ _ ⟨z0, z1, z2, z3, z4⟩
          rw [z0, z1, z2, z3]
          exact ih (i + 1) (by omega) z4
        · rw [ii]
          refine sp_X3_contains (zfds a7) xg.1.1 (by have q1 := i1.1; unfold fSz at q1; have q2 := i1.2; omega) (fun r er => qI_i ⟨xg.1.1, fun z => ⟨by omega, fun x7 e7 _ => ⟨rfl, rfl, by omega, rfl, ?_⟩⟩, fun z => ?_⟩)
          · split at er
            · omega
            · rename_i q
              rw [if_neg q] at e; exact e
          · split at er
            · rename_i q
              rw [if_pos q] at e
              rw [← e] at k
              exact k g xg cf
            · omega
    exact loop (yL s o).1.length 0 (by omega) rfl
end QRY
