/-! counterparts -/
def fEq : List (List Int × List Int) → List Int → Nat → Int
  | [], _, _ => -1009
  | fd :: F, p, i => if fd.2 = p then (i : Int) else fEq F p (i + 1)
noncomputable def rCpt (s : zSt) (o i o2 : Int) : Int := cI (ovP (sD s) o2 ∧ hF s o i) (fEq (yL s o2).1 (fA s o i).2 0) (-1001)
theorem rng_eq {f : Nat → Int} {n : Nat} {p : List Int} : ((List.range n).map f = p) ↔ (n = p.length ∧ ∀ l, l < n → f l = p.getD l 0) := by
  constructor
  · intro e
    rw [← e]
    refine ⟨by rw [List.length_map, List.length_range], fun l hl => ?_⟩
    rw [rng_get hl]
  · rintro ⟨e, a⟩
    refine List.ext_getElem? (fun l => ?_)
    by_cases q : l < n
    · rw [List.getElem?_map, List.getElem?_range q]
      show some (f l) = _
      rw [a l q, List.getD_eq_getElem?_getD, List.getElem?_eq_getElem (by omega)]
      rfl
    · rw [List.getElem?_eq_none (by rw [List.length_map, List.length_range]; omega), List.getElem?_eq_none (by omega)]
section CPT
variable {G : zG} {d : Nat} {Q : Option zV → zHp → Prop} {h : zHp} {s : zSt}
/-- the path sought lies ready -/
def xSo (h : zHp) (p : List Int) : Prop := gI h 215 13 = (p.length : Int) ∧ p.length ≤ 4 ∧ ∀ l : Nat, l < p.length → gI h 341 l = p.getD l 0
theorem sp_isSought {f : Nat} {p : List Int} (hT : zT 369 f = (103, 8)) (hS : zSh h) (so : xSo h p) (k1 : (gI h f 6 = (p.length : Int) ∧ ∀ l : Nat, l < p.length → gI h (f + 1) l = p.getD l 0) → Q (some (vI 1)) h) (k0 : ¬ (gI h f 6 = (p.length : Int) ∧ ∀ l : Nat, l < p.length → gI h (f + 1) l = p.getD l 0) → Q (some (vI 0)) h) : wpN G d M_X6_isSought 0 (zar 0 [vR 215, vR f]) [] h Q := by
  obtain ⟨e1, e2, e3⟩ := so
  refine vc_X6_isSought_0 f hT h hS (Nat.zero_le _) (fun y1 y2 g => y1 = f ∧ y2 = ((0 : Nat) : Int) ∧ g = h ∧ gI h f 6 = (p.length : Int)) ?_ ⟨fun c _ => ⟨rfl, rfl, rfl, by omega⟩, fun c => k0 (fun w => c (by rw [w.1, e1]))⟩
  rintro _ _ _ ⟨z0, z1, z2, e6⟩
  rw [z0, z1, z2]
  have loop : ∀ (m l : Nat), l + m = p.length → (∀ j : Nat, j < l → gI h (f + 1) j = p.getD j 0) → wpN G d M_X6_isSought 15 [(0, vR 215), (1, vR f), (2, vI (l : Int))] [] h Q := by
    intro m
    induction m with
    | zero =>
      intro l hl a
      exact vc_X6_isSought_15 f hT l h hS (Nat.zero_le _) (fun _ _ _ => False) (fun _ _ _ w => w.elim) ⟨fun _ => k1 ⟨e6, fun j hj => a j (by omega)⟩, fun w => by omega⟩
    | succ m ih =>
      intro l hl a
      have ll : ((l : Nat) : Int).toNat = l := by omega
      refine vc_X6_isSought_15 f hT l h hS (Nat.zero_le _) (fun y1 y2 g => y1 = f ∧ y2 = ((l + 1 : Nat) : Int) ∧ g = h ∧ gI h (f + 1) l = p.getD l 0) ?_ ⟨fun w => by omega, fun w => ⟨by omega, by omega, fun c => ⟨by omega, fun x3 e3' _ => ⟨rfl, by omega, rfl, ?_⟩⟩, fun c => k0 (fun w2 => c ?_)⟩⟩
      · rintro _ _ _ ⟨y0, y1, y2, y3⟩
        rw [y0, y1, y2]
        refine ih (l + 1) (by omega) (fun j hj => ?_)
        by_cases q : j = l
        · rw [q]; exact y3
        · exact a j (by omega)
      · rw [ll] at c
        rw [c]; exact e3 l (by omega)
      · rw [ll, w2.2 l (by omega), e3 l (by omega)]
  exact loop p.length 0 (by omega) (fun j hj => absurd hj (by omega))
theorem yx_first {o : Int} {p : List Int} (hd : 1 ≤ d) (x : XS h s) (L : xLd h (yL s o)) (op : ovP (sD s) o) (so : xSo h p) (k : Q (some (vI (fEq (yL s o).1 p 0))) h) : wpN G d M_X6_firstSought 0 (zar 0 [vR 215]) [] h Q := by
  have ln : ((yL s o).1.length : Int) = gI h 215 1 := by
    rw [show (yL s o).1 = xFs h from congrArg Prod.fst L.1, xFs_len]
    have := L.2
    omega
  have k : Q (some (vI (fEq ((yL s o).1.drop 0) p 0))) h := k
  have loop : ∀ (m i : Nat), i + m = (yL s o).1.length → fEq ((yL s o).1.drop i) p i = fEq ((yL s o).1.drop 0) p 0 → wpN G d M_X6_firstSought 2 [(0, vR 215), (1, vI (i : Int))] [] h Q := by
    intro m
    induction m with
    | zero =>
      intro i hi e
      refine vc_X6_firstSought_2 i h x.1.1 (by omega) (fun _ _ => False) (fun _ _ w => w.elim) ⟨fun w => ?_, fun w => by omega⟩
      rw [List.drop_eq_nil_of_le (by omega)] at e
      rw [← e] at k
      exact k
    | succ m ih =>
      intro i hi e
      obtain ⟨a1, a2, a3, a4, a5, a6, a7⟩ := yx_fd x L op (i := i) (by omega)
      have a8 : 1 ≤ gI h (217 + 2 * i) 6 := a5.2.2.2.1.1
      have ii : ((i : Nat) : Int).toNat = i := by omega
      have eq : (xFl h i).2 = p ↔ (gI h (217 + 2 * i) 6 = (p.length : Int) ∧ ∀ l : Nat, l < p.length → gI h (217 + 2 * i + 1) l = p.getD l 0) := by
        show ((List.range (gI h (217 + 2 * i) 6).toNat).map (fun k => gI h (217 + 2 * i + 1) k) = p) ↔ _
        rw [rng_eq]
        constructor
        · rintro ⟨w1, w2⟩
          exact ⟨by omega, fun l hl => w2 l (by omega)⟩
        · rintro ⟨w1, w2⟩
          exact ⟨by omega, fun l hl => w2 l (by omega)⟩
      rw [drop_c a1, fEq] at e
      refine vc_X6_firstSought_2 i h x.1.1 (by omega) (fun y1 g => y1 = ((i + 1 : Nat) : Int) ∧ g = h ∧ fEq ((yL s o).1.drop (i + 1)) p (i + 1) = fEq ((yL s o).1.drop 0) p 0) ?_ ⟨fun w => by omega, fun w => ⟨by omega, ?_⟩⟩
      · rintro _ _ ⟨z0, z1, z2⟩
        rw [z0, z1]
        exact ih (i + 1) (by omega) z2
      · rw [ii]
        refine sp_isSought (zfds a7) x.1.1 so (fun w2 => qI_i ⟨x.1.1, fun z => absurd z (by omega), fun _ => ?_⟩) (fun w2 => qI_i ⟨x.1.1, fun _ => ⟨by omega, fun x7 e7 _ => ⟨by omega, rfl, ?_⟩⟩, fun z => absurd rfl z⟩)
        · rw [if_pos (eq.mpr w2)] at e
          rw [← e] at k
          exact k
        · rw [if_neg (fun z => w2 (eq.mp z))] at e; exact e
  refine vc_X6_firstSought_0 h x.1.1 hd (fun y1 g => y1 = ((0 : Nat) : Int) ∧ g = h) ?_ (fun _ => ⟨rfl, rfl⟩)
  rintro _ _ ⟨z0, z1⟩
  rw [z0, z1]
  exact loop (yL s o).1.length 0 (by omega) rfl
theorem yx_counterpart {o i o2 : Int} (hd : 13 ≤ d) (x : XS h s) (k : ∀ g, XS g s → xcF h g → Q (some (vI (rCpt s o i o2))) g) : wpN G d M_X10_counterpart 0 (zar 0 [vR 1, vI o, vI i, vI o2]) [] h Q := by
  have bad : ∀ g, ¬ (ovP (sD s) o2 ∧ hF s o i) → XS g s → xcF h g → Q (some (vI (-1001))) g := fun g nb xg cf => by
    have e : rCpt s o i o2 = -1001 := by unfold rCpt; rw [cI_n nb]
    rw [e] at k; exact k g xg cf
  have ov8 := (XS_8 x).2.2.2.2.1
  have hasP : dHas h 8 o2 = 1 ↔ ovP (sD s) o2 := by
    unfold dHas ovP
    constructor
    · intro e
      split at e
      · rename_i w
        refine ⟨w.1, w.2.1, ?_⟩
        rw [show ovA (sD s) o2.toNat = (gI h 11 o2.toNat, gI h 12 o2.toNat) from ov8 _ (by omega)]
        exact w.2.2
      · omega
    · intro w
      have w3 := w.2.2
      rw [show ovA (sD s) o2.toNat = (gI h 11 o2.toNat, gI h 12 o2.toNat) from ov8 _ (by have := w.1; have := w.2.1; omega)] at w3
      rw [if_pos ⟨w.1, w.2.1, w3⟩]
  have h01 := dHas_01 h 8 o2
  refine vc_X10_counterpart_0 o i o2 h x.1.1 (by omega) (sp_X2_isPresent zT_8 x.1.1 (fun r er => qI_i ⟨x.1.1, fun z => bad h (fun w => by have := hasP.mpr w.1; omega) x xcF_rf, fun z => yx_hasF (by omega) x (fun g nf xg cf => qI_i ⟨xg.1.1, fun w2 => absurd rfl w2, fun _ => bad g (fun w => nf w.2) xg cf⟩) (fun g f xg cf L => qI_i ⟨xg.1.1, fun _ => ?_, fun w2 => absurd w2 (by omega)⟩)⟩))
  have op2 : ovP (sD s) o2 := hasP.mp (by omega)
  have ff := f
  obtain ⟨op, i0, i1⟩ := f
  obtain ⟨a1, a2, a3, a4, a5, a6, a7⟩ := yx_fd xg L op (i := i.toNat) (by omega)
  have a8 : 1 ≤ gI g (217 + 2 * i.toNat) 6 := a5.2.2.2.1.1
  have ln : ((yL s o).1.length : Int) = gI g 215 1 := by
    rw [show (yL s o).1 = xFs g from congrArg Prod.fst L.1, xFs_len]
    have := L.2
    omega
  have e : rCpt s o i o2 = fEq (yL s o2).1 (xFl g i.toNat).2 0 := by
    unfold rCpt
    rw [fA_e a1, cI_p ⟨op2, ff⟩]
  rw [e] at k
  refine vc_X6_seek_0 i g xg.1.1 (by omega) ⟨fun w => by omega, fun _ => ⟨fun _ => ⟨by omega, fun h3 e3 => ⟨by omega, by omega, fun h5 e5 => ?_⟩⟩, fun w => by omega⟩⟩
  have F5 : zF3 (fun b => b = 215 ∨ b = 341) g h5 := by
    rw [e5, e3]
    exact (zF3.sI (Or.inl rfl)).tr (zFr.cpI (Or.inr rfl)).f3
  have s5 : zSh h5 := by rw [e5, e3]; exact xg.1.1
  have x5 : XS h5 s := XS_hi F5 (fun b hb w => by omega) s5 xg
  have c5 : xcF h h5 := xcF_tr cf (xcF_3 F5 (fun b hb w => by omega))
  have lp : (xFl g i.toNat).2.length = (gI g (217 + 2 * i.toNat) 6).toNat := by
    show ((List.range (gI g (217 + 2 * i.toNat) 6).toNat).map (fun k => gI g (217 + 2 * i.toNat + 1) k)).length = _
    rw [List.length_map, List.length_range]
  have so5 : xSo h5 (xFl g i.toNat).2 := by
    refine ⟨?_, by omega, fun l hl => ?_⟩
    · rw [lp, e5]
      show gI h3 215 13 = _
      rw [e3, gI_sI, if_pos ⟨rfl, rfl⟩]; omega
    · rw [e5, cpI_at, if_pos (by omega), e3, gI_sI, if_neg (by omega)]
      show _ = ((List.range (gI g (217 + 2 * i.toNat) 6).toNat).map (fun k => gI g (217 + 2 * i.toNat + 1) k)).getD l 0
      rw [rng_get (by omega), show 0 + (l - 0) = l by omega]
  refine qV_i ⟨s5, yx_layOut (by omega) x5 (fun np => absurd op2 np) (fun g2 _ x2 cf2 L2 C2 => qI_i ⟨x2.1.1, yx_first (o := o2) (by omega) x2 L2 op2 (p := (xFl g i.toNat).2) ?_ (qI_i ⟨x2.1.1, k g2 x2 (xcF_tr c5 cf2)⟩)⟩)⟩
  obtain ⟨q1, q2, q3⟩ := so5
  exact ⟨by rw [(C2.1 215 13 (by omega)).1]; exact q1, q2, fun l hl => by rw [(C2.1 341 l (by omega)).1]; exact q3 l hl⟩
end CPT
