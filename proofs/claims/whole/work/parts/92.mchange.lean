/-! the model: delete, lay, remove -/
def clD (p n v : Int) : Int := if v - n < p then p else v - n
section MCHG3
variable {G : zG} {d : Nat} {Q : Option zV → zHp → Prop} {h : zHp} {s : zSt}
theorem ym_delete {p n : Int} (hd : 8 ≤ d) (x : MS h s) (k : ∀ g, MS g (rDel s p n).2 → mcF h g → Q (some (vI (rDel s p n).1)) g) : wpN G d M_X11_delete 0 (zar 0 [vR 343, vI p, vI n]) [] h Q := by
  have hS := x.1.1
  obtain ⟨h8, e8⟩ := MS_8 x
  obtain ⟨l8, _⟩ := MS_c x
  have l8 : ((sB s).length : Int) = gI h 344 200 := l8
  obtain ⟨b1, _⟩ := mdOk_e h8
  have bad : ¬ (0 ≤ p ∧ 1 ≤ n ∧ p + n ≤ (sB s).length) → Q (some (vI (-1001))) h := fun nb => by
    have e : rDel s p n = (-1001, s) := by unfold rDel; rw [if_neg nb]
    rw [e] at k; exact k h x mcF_rf
  refine vc_X11_delete_0 p n h hS (by omega) (fun y1 y2 y3 g => y1 = p ∧ y2 = n ∧ y3 = (((p + n).toNat : Nat) : Int) ∧ wpN G d M_X11_delete 39 [(0, vR 343), (1, vI p), (2, vI n), (3, vI (((p + n).toNat : Nat) : Int))] [] g Q) ?_ ⟨fun w => bad (fun w2 => by omega), fun hp => ⟨fun w => bad (fun w2 => by omega), fun hn => sp_size hS (qI_i ⟨hS, fun w => bad (fun w2 => by omega), fun hn2 => sp_size hS (qI_i ⟨hS, by omega, fun hpn => ?_, fun w => bad (fun w2 => by omega)⟩)⟩)⟩⟩
  · rintro _ _ _ _ ⟨z0, z1, z2, z4⟩
    rw [z0, z1, z2]
    exact z4
  · refine ym_keep (by omega) x (fun h1 xm cf1 e1 => qV_i ⟨xm.1.1, by omega, fun x17 e17 _ => ⟨rfl, rfl, by omega, ?_⟩⟩)
    obtain ⟨s1, o1, d1⟩ := MM_8 xm
    obtain ⟨a1, a2, a3⟩ := mdOk_e o1
    obtain ⟨c1, c2, c3, c4⟩ := MM_c xm
    have n1 := e1 200
    have er : rDel s p n = chR s (delL (sB s) p.toNat n.toNat, (sO s).map (oCl p n)) aLen := by unfold rDel; rw [if_pos (by omega)]
    rw [er] at k
    have loop3 : ∀ (m o : Nat) (g : zHp), o + m = 4 → zSh g → zF4 m344 h1 g → gI g 344 200 = gI h1 344 200 - n → (∀ j : Nat, (j : Int) < p → gI g 344 j = gI h1 344 j) → (∀ j : Nat, p ≤ j → (j : Int) < gI h1 344 200 - n → gI g 344 j = gI h1 344 (j + n.toNat)) → (∀ j : Nat, j < 200 → 0 ≤ gI g 344 j ∧ gI g 344 j ≤ 255) → (∀ t : Nat, t < 4 → gI g 344 (201 + 3 * t) = gI h1 344 (201 + 3 * t) ∧ gI g 344 (202 + 3 * t) = gI h1 344 (202 + 3 * t)) → (∀ t : Nat, t < 4 → gI g 344 (203 + 3 * t) = if t < o ∧ gI h1 344 (201 + 3 * t) = 1 ∧ p < gI h1 344 (203 + 3 * t) then clD p n (gI h1 344 (203 + 3 * t)) else gI h1 344 (203 + 3 * t)) → wpN G d M_X11_delete 109 [(0, vR 343), (1, vI p), (2, vI n), (3, vI (o : Int))] [] g Q := by
      intro m
      induction m with
      | zero =>
        intro o g ho sg F f1 f2 f3 f4 f5 f6
        have xg : MM g s (delL (sB s) p.toNat n.toNat, (sO s).map (oCl p n)) := by
          refine MM_d F (mdOk_i (by omega) f4 (fun t ht q => ?_)) (mdoc ?_ ?_ (fun t ht => ?_)) xm
          · rw [(f5 t ht).1] at q
            have z := a3 t ht q
            rw [(f5 t ht).2, f6 t ht, f1]
            refine ⟨z.1, ?_⟩
            split
            · unfold clD
              split <;> omega
            · rename_i w
              have w : ¬ p < gI h1 344 (203 + 3 * t) := fun w2 => w ⟨by omega, q, w2⟩
              omega
          · rw [f1, show sB s = lst (gI h1 344) (gI h1 344 200) from c2, show gI h1 344 200 - n = gI h1 344 200 - (n.toNat : Int) by omega]
            exact del_lst a1.1 (by omega) (fun j hj => f2 j (by omega)) (fun j hj hj2 => f3 j (by omega) (by omega))
          · rw [List.length_map]; exact c4
          · rw [getD_map (oCl_0 (by omega)), show (sO s).getD t (-1, 0) = _ from c3 t ht, (f5 t ht).1, (f5 t ht).2, f6 t ht]
            by_cases q : gI h1 344 (201 + 3 * t) = 1
            · rw [if_pos q, if_pos q]
              show (gI h1 344 (202 + 3 * t), if p < gI h1 344 (203 + 3 * t) then clD p n (gI h1 344 (203 + 3 * t)) else gI h1 344 (203 + 3 * t)) = _
              by_cases q2 : p < gI h1 344 (203 + 3 * t)
              · rw [if_pos q2, if_pos ⟨by omega, q, q2⟩]
              · rw [if_neg q2, if_neg (fun w => q2 w.2.2)]
            · rw [if_neg q, if_neg q, oCl_0 (by omega)]
        refine vc_X11_delete_109 p n o g sg (by omega) (fun _ _ _ _ => False) (fun _ _ _ _ w => w.elim) ⟨fun _ => ?_, fun w => by omega⟩
        refine ym_chg (h0 := h) (a := aLen) (by omega) xg (mcF_tr cf1 (mcF_d F)) (fun g' s' xs cf e _ _ => ⟨fun w => absurd w (by omega), fun _ => sp_size xs.1.1 (qI_i ⟨xs.1.1, ?_⟩)⟩) (fun g' xs cf e => ⟨fun _ => ?_, fun w => absurd rfl w⟩)
        · rw [e] at k
          rw [← (MS_c xs).1]
          exact k g' xs cf
        · rw [e] at k
          exact k g' xs cf
      | succ m ih =>
        intro o g ho sg F f1 f2 f3 f4 f5 f6
        have ef := (f5 o (by omega)).1
        have eo : gI g 344 (203 + 3 * o) = gI h1 344 (203 + 3 * o) := by rw [f6 o (by omega), if_neg (fun w => by omega)]
        -- the step that leaves the heap
        have same : ¬ (gI h1 344 (201 + 3 * o) = 1 ∧ p < gI h1 344 (203 + 3 * o)) → wpN G d M_X11_delete 109 [(0, vR 343), (1, vI p), (2, vI n), (3, vI ((o + 1 : Nat) : Int))] [] g Q := fun w => ih (o + 1) g (by omega) sg F f1 f2 f3 f4 f5 (fun t ht => by
          rw [f6 t ht]
          by_cases et : t = o
          · rw [et, if_neg (fun z => by omega), if_neg (fun z => w z.2)]
          · by_cases q : t < o ∧ gI h1 344 (201 + 3 * t) = 1 ∧ p < gI h1 344 (203 + 3 * t)
            · rw [if_pos q, if_pos ⟨by omega, q.2⟩]
            · rw [if_neg q, if_neg (fun z => q ⟨by omega, z.2⟩)])
        have put : (gI h1 344 (201 + 3 * o) = 1 ∧ p < gI h1 344 (203 + 3 * o)) → ∀ v, v = clD p n (gI h1 344 (203 + 3 * o)) → wpN G d M_X11_delete 109 [(0, vR 343), (1, vI p), (2, vI n), (3, vI ((o + 1 : Nat) : Int))] [] (sI g 344 (203 + 3 * o) v) Q := fun w v ev => ih (o + 1) _ (by omega) sg (F.tr (zF4.sI rfl)) (by rw [gI_sI, if_neg (by omega)]; exact f1) (fun j hj => by rw [gI_sI, if_neg (by omega)]; exact f2 j hj) (fun j hj hj2 => by rw [gI_sI, if_neg (by omega)]; exact f3 j hj hj2) (fun j hj => by rw [gI_sI, if_neg (by omega)]; exact f4 j hj) (fun t ht => by rw [gI_sI, if_neg (by omega), gI_sI, if_neg (by omega)]; exact f5 t ht) (fun t ht => by
          rw [gI_sI]
          by_cases et : t = o
          · rw [et, if_pos ⟨rfl, rfl⟩, if_pos ⟨by omega, w⟩]; exact ev
          · rw [if_neg (fun z => et (by omega)), f6 t ht]
            by_cases q : t < o ∧ gI h1 344 (201 + 3 * t) = 1 ∧ p < gI h1 344 (203 + 3 * t)
            · rw [if_pos q, if_pos ⟨by omega, q.2⟩]
            · rw [if_neg q, if_neg (fun z => q ⟨by omega, z.2⟩)])
        have z200 := fun q => (a3 o (by omega) q).2
        refine vc_X11_delete_109 p n o g sg (by omega) (fun y1 y2 y3 g' => y1 = p ∧ y2 = n ∧ y3 = ((o + 1 : Nat) : Int) ∧ wpN G d M_X11_delete 109 [(0, vR 343), (1, vI p), (2, vI n), (3, vI ((o + 1 : Nat) : Int))] [] g' Q) ?_ ⟨fun w => by omega, fun w => sp_isPresent (by omega) sg (fun r er => qI_i ⟨sg, fun z => ⟨by omega, fun x16 e16 _ => ⟨rfl, rfl, by omega, same ?_⟩⟩, fun z => sp_offsetOf sg (by omega) (qI_i ⟨sg, fun z1 => ⟨by omega, fun x23 e23 _ => ⟨rfl, rfl, by omega, same (fun w => by omega)⟩⟩, fun z1 => sp_offsetOf sg (by omega) (qI_i ⟨sg, ?_⟩)⟩)⟩)⟩
        · rintro _ _ _ _ ⟨z0, z1, z2, z4⟩
          rw [z0, z1, z2]
          exact z4
        · rw [mHas_n (by omega), ef] at er
          intro w
          rw [if_pos w.1] at er; omega
        · rw [mHas_n (by omega), ef] at er
          have fl : gI h1 344 (201 + 3 * o) = 1 := by
            by_cases w : gI h1 344 (201 + 3 * o) = 1
            · exact w
            · rw [if_neg w] at er; omega
          have zz := z200 fl
          refine ⟨by omega, fun w1 => sp_offsetOf sg (by omega) (qI_i ⟨sg, by omega, sp_moves sg (by omega) (fun h35 e35 => qV_i ⟨by rw [e35]; exact sg, by omega, fun x38 e38 _ => ⟨rfl, rfl, by omega, ?_⟩⟩)⟩), fun w1 => sp_moves sg (by omega) (fun h41 e41 => qV_i ⟨by rw [e41]; exact sg, by omega, fun x44 e44 _ => ⟨rfl, rfl, by omega, ?_⟩⟩)⟩
          · rw [e35]
            exact put ⟨fl, by omega⟩ _ (by unfold clD; rw [if_neg (by omega), eo])
          · rw [e41]
            exact put ⟨fl, by omega⟩ _ (by unfold clD; rw [if_pos (by omega)])
    have loop2 : ∀ (m c : Nat) (g : zHp), c + m = (gI h1 344 200).toNat → gI h1 344 200 - n ≤ c → zSh g → zF4 m344 h1 g → (∀ j : Nat, gI g 344 j = if j = 200 then gI h1 344 200 - n else if gI h1 344 200 - n ≤ j ∧ j < c then 0 else if p ≤ j ∧ (j : Int) < gI h1 344 200 - n then gI h1 344 (j + n.toNat) else gI h1 344 j) → wpN G d M_X11_delete 84 [(0, vR 343), (1, vI p), (2, vI n), (3, vI (c : Int))] [] g Q := by
      intro m
      induction m with
      | zero =>
        intro c g hc hc2 sg F o
        have e200 : gI g 344 200 = gI h1 344 200 - n := by rw [o, if_pos rfl]
        refine vc_X11_delete_84 p n c g sg (by omega) (fun _ _ _ _ => False) (fun _ _ _ _ w => w.elim) (fun y1 y2 y3 g' => y1 = p ∧ y2 = n ∧ y3 = ((0 : Nat) : Int) ∧ g' = g) ?_ (sp_size sg (qI_i ⟨sg, by omega, fun w _ => ⟨rfl, rfl, rfl, rfl⟩, fun w => by omega⟩))
        rintro _ _ _ _ ⟨z0, z1, z2, z4⟩
        rw [z0, z1, z2, z4]
        refine loop3 4 0 g rfl sg F e200 (fun j hj => by rw [o, if_neg (by omega), if_neg (by omega), if_neg (by omega)]) (fun j hj hj2 => by rw [o, if_neg (by omega), if_neg (by omega), if_pos ⟨hj, hj2⟩]) (fun j hj => ?_) (fun t ht => ?_) (fun t ht => ?_)
        · rw [o, if_neg (by omega)]
          split
          · omega
          · split
            · exact a2 _ (by omega)
            · exact a2 _ hj
        · rw [o, if_neg (by omega), if_neg (by omega), if_neg (by omega), o, if_neg (by omega), if_neg (by omega), if_neg (by omega)]; exact ⟨rfl, rfl⟩
        · rw [o, if_neg (by omega), if_neg (by omega), if_neg (by omega), if_neg (fun w => absurd w.1 (by omega))]
      | succ m ih =>
        intro c g hc hc2 sg F o
        have e200 : gI g 344 200 = gI h1 344 200 - n := by rw [o, if_pos rfl]
        refine vc_X11_delete_84 p n c g sg (by omega) (fun y1 y2 y3 g' => y1 = p ∧ y2 = n ∧ y3 = ((c + 1 : Nat) : Int) ∧ g' = sI g 344 c 0) ?_ (fun _ _ _ _ => False) (fun _ _ _ _ w => w.elim) (sp_size sg (qI_i ⟨sg, by omega, fun w => by omega, fun w => ⟨by omega, fun h6 e6 => ⟨by omega, fun x8 e8 _ => ⟨rfl, rfl, by omega, by rw [e6, show ((c : Nat) : Int).toNat = c by omega]⟩⟩⟩⟩))
        rintro _ _ _ _ ⟨z0, z1, z2, z4⟩
        rw [z0, z1, z2, z4]
        refine ih (c + 1) _ (by omega) (by omega) sg (F.tr (zF4.sI rfl)) (fun j => ?_)
        rw [gI_sI]
        by_cases q : j = c
        · rw [if_pos ⟨rfl, q⟩, if_neg (by omega), if_pos (by omega)]
        · rw [if_neg (fun w => q w.2), o]
          by_cases q1 : j = 200
          · rw [if_pos q1, if_pos q1]
          · rw [if_neg q1, if_neg q1]
            by_cases q2 : gI h1 344 200 - n ≤ j ∧ j < c
            · rw [if_pos q2, if_pos (by omega)]
            · have q3 : ¬ (gI h1 344 200 - n ≤ j ∧ j < c + 1) := by omega
              rw [if_neg q2, if_neg q3]
    have loop1 : ∀ (m c : Nat) (g : zHp), c + m = (gI h1 344 200).toNat → p + n ≤ c → zSh g → zF4 m344 h1 g → (∀ j : Nat, gI g 344 j = if p ≤ j ∧ (j : Int) < c - n then gI h1 344 (j + n.toNat) else gI h1 344 j) → wpN G d M_X11_delete 39 [(0, vR 343), (1, vI p), (2, vI n), (3, vI (c : Int))] [] g Q := by
      intro m
      induction m with
      | zero =>
        intro c g hc hc2 sg F o
        have e200 : gI g 344 200 = gI h1 344 200 := by rw [o, if_neg (by omega)]
        refine vc_X11_delete_39 p n c g sg (by omega) (fun _ _ _ _ => False) (fun _ _ _ _ w => w.elim) (fun y1 y2 y3 g' => y1 = p ∧ y2 = n ∧ y3 = (((gI h1 344 200 - n).toNat : Nat) : Int) ∧ g' = sI g 344 200 (gI h1 344 200 - n)) ?_ (sp_size sg (qI_i ⟨sg, fun w => ⟨by omega, fun h6 e6 => sp_size (by rw [e6]; exact sg) (qI_i ⟨by rw [e6]; exact sg, fun _ => ⟨rfl, rfl, ?_, by rw [e6, e200]⟩⟩)⟩, fun w => by omega⟩))
        · rintro _ _ _ _ ⟨z0, z1, z2, z4⟩
          rw [z0, z1, z2, z4]
          refine loop2 n.toNat _ _ (by omega) (by omega) sg (F.tr (zF4.sI rfl)) (fun j => ?_)
          rw [gI_sI]
          by_cases q : j = 200
          · rw [if_pos ⟨rfl, q⟩, if_pos q]
          · rw [if_neg (fun w => q w.2), if_neg q, if_neg (by omega), o]
            by_cases q2 : p ≤ j ∧ (j : Int) < gI h1 344 200 - n
            · rw [if_pos q2, if_pos (by omega)]
            · rw [if_neg q2, if_neg (by omega)]
        · rw [e6, gI_sI, if_pos ⟨rfl, rfl⟩, e200]; omega
      | succ m ih =>
        intro c g hc hc2 sg F o
        have e200 : gI g 344 200 = gI h1 344 200 := by rw [o, if_neg (by omega)]
        refine vc_X11_delete_39 p n c g sg (by omega) (fun y1 y2 y3 g' => y1 = p ∧ y2 = n ∧ y3 = ((c + 1 : Nat) : Int) ∧ g' = sI g 344 (c - n.toNat) (gI h1 344 c)) ?_ (fun _ _ _ _ => False) (fun _ _ _ _ w => w.elim) (sp_size sg (qI_i ⟨sg, fun w => by omega, fun w => ⟨by omega, by omega, by omega, fun h12 e12 => ⟨by omega, fun x14 e14 _ => ⟨rfl, rfl, by omega, ?_⟩⟩⟩⟩))
        · rintro _ _ _ _ ⟨z0, z1, z2, z4⟩
          rw [z0, z1, z2, z4]
          refine ih (c + 1) _ (by omega) (by omega) sg (F.tr (zF4.sI rfl)) (fun j => ?_)
          rw [gI_sI]
          by_cases q : j = c - n.toNat
          · rw [if_pos ⟨rfl, q⟩, if_pos (by omega)]; congr 1; omega
          · rw [if_neg (fun w => q w.2), o]
            by_cases q2 : p ≤ j ∧ (j : Int) < c - n
            · rw [if_pos q2, if_pos (by omega)]
            · rw [if_neg q2, if_neg (by omega)]
        · rw [e12, show ((c : Int) - n).toNat = c - n.toNat by omega, show ((c : Nat) : Int).toNat = c by omega, o, if_neg (by omega)]
    exact loop1 (gI h1 344 200 - (p + n)).toNat (p + n).toNat h1 (by omega) (by omega) s1 zF4.rf (fun j => by rw [if_neg (by omega)])
theorem ym_lay {o t f : Int} (hd : 8 ≤ d) (x : MS h s) (k : ∀ g, MS g (rLay s o t f).2 → mcF h g → Q (some (vI (rLay s o t f).1)) g) : wpN G d M_X11_lay 0 (zar 0 [vR 343, vI o, vI t, vI f]) [] h Q := by
  have hS := x.1.1
  obtain ⟨h8, e8⟩ := MS_8 x
  obtain ⟨l8, _⟩ := MS_c x
  have l8 : ((sB s).length : Int) = gI h 344 200 := l8
  obtain ⟨b1, _⟩ := mdOk_e h8
  have bad : ¬ ((0 ≤ o ∧ o ≤ 3) ∧ (0 ≤ t ∧ t ≤ 3) ∧ 0 ≤ f ∧ f ≤ (sB s).length) → Q (some (vI (-1001))) h := fun nb => by
    have e : rLay s o t f = (-1001, s) := by unfold rLay; rw [if_neg nb]
    rw [e] at k; exact k h x mcF_rf
  refine vc_X11_lay_0 o t f h hS (by omega) (sp_in hS (fun r1 q1 => qI_i ⟨hS, fun z => bad (fun w => by omega), fun z => sp_in hS (fun r2 q2 => qI_i ⟨hS, fun z2 => bad (fun w => by omega), fun z2 => sp_size hS (qI_i ⟨hS, sp_in hS (fun r3 q3 => qI_i ⟨hS, fun z3 => ?_, fun z3 => bad (fun w => by omega)⟩)⟩)⟩)⟩))
  have er : rLay s o t f = chR s (sB s, (sO s).set o.toNat (t, f)) (aFds o.toNat) := by unfold rLay; rw [if_pos (by omega)]
  rw [er] at k
  refine ym_keep (by omega) x (fun h1 xm cf1 e1 => qV_i ⟨xm.1.1, by omega, by omega, by omega, fun h24 e24 => ⟨by omega, by omega, by omega, fun h26 e26 => ⟨by omega, by omega, by omega, fun g eg => ?_⟩⟩⟩)
  obtain ⟨s1, o1, d1⟩ := MM_8 xm
  obtain ⟨a1, a2, a3⟩ := mdOk_e o1
  obtain ⟨c1, c2, c3, c4⟩ := MM_c xm
  have n1 := e1 200
  have F1 : zF4 m344 h1 h24 := by rw [e24]; exact zF4.sI rfl
  have F2 : zF4 m344 h24 h26 := by rw [e26]; exact zF4.sI rfl
  have F3 : zF4 m344 h26 g := by rw [eg]; exact zF4.sI rfl
  have F : zF4 m344 h1 g := (F1.tr F2).tr F3
  have at1 : ∀ j : Nat, gI g 344 j = if j = (203 + 3 * o).toNat then f else if j = (202 + 3 * o).toNat then t else if j = (201 + 3 * o).toNat then 1 else gI h1 344 j := fun j => by
    rw [eg, gI_sI]
    by_cases w : j = (203 + 3 * o).toNat
    · rw [if_pos ⟨rfl, w⟩, if_pos w]
    · rw [if_neg (fun z => w z.2), if_neg w, e26, gI_sI]
      by_cases w : j = (202 + 3 * o).toNat
      · rw [if_pos ⟨rfl, w⟩, if_pos w]
      · rw [if_neg (fun z => w z.2), if_neg w, e24, gI_sI]
        by_cases w : j = (201 + 3 * o).toNat
        · rw [if_pos ⟨rfl, w⟩, if_pos w]
        · rw [if_neg (fun z => w z.2), if_neg w]
  have lo : ∀ j : Nat, j ≤ 200 → gI g 344 j = gI h1 344 j := fun j hj => by rw [at1, if_neg (by omega), if_neg (by omega), if_neg (by omega)]
  have ov : ∀ i : Nat, i < 4 → (i = o.toNat → gI g 344 (201 + 3 * i) = 1 ∧ gI g 344 (202 + 3 * i) = t ∧ gI g 344 (203 + 3 * i) = f) ∧ (i ≠ o.toNat → gI g 344 (201 + 3 * i) = gI h1 344 (201 + 3 * i) ∧ gI g 344 (202 + 3 * i) = gI h1 344 (202 + 3 * i) ∧ gI g 344 (203 + 3 * i) = gI h1 344 (203 + 3 * i)) := fun i hi => by
    refine ⟨fun w => ⟨?_, ?_, ?_⟩, fun w => ⟨?_, ?_, ?_⟩⟩
    · rw [at1, if_neg (by omega), if_neg (by omega), if_pos (by omega)]
    · rw [at1, if_neg (by omega), if_pos (by omega)]
    · rw [at1, if_pos (by omega)]
    · rw [at1, if_neg (by omega), if_neg (by omega), if_neg (by omega)]
    · rw [at1, if_neg (by omega), if_neg (by omega), if_neg (by omega)]
    · rw [at1, if_neg (by omega), if_neg (by omega), if_neg (by omega)]
  have c4' : (sO s).length = 4 := c4
  have xg : MM g s (sB s, (sO s).set o.toNat (t, f)) := by
    refine MM_d F (mdOk_i (by rw [lo 200 (by omega)]; exact a1) (fun j hj => by rw [lo j (by omega)]; exact a2 j hj) (fun i hi q => ?_)) (mdoc ?_ ?_ (fun i hi => ?_)) xm
    · obtain ⟨p1, p2⟩ := ov i hi
      rw [lo 200 (by omega)]
      by_cases w : i = o.toNat
      · obtain ⟨u1, u2, u3⟩ := p1 w
        rw [u2, u3]; omega
      · obtain ⟨u1, u2, u3⟩ := p2 w
        rw [u1] at q
        rw [u2, u3]; exact a3 i hi q
    · rw [lo 200 (by omega), show sB s = lst (gI h1 344) (gI h1 344 200) from c2]
      exact lst_eq rfl (fun j hj => lo j (by omega))
    · rw [List.length_set]; exact c4'
    · obtain ⟨p1, p2⟩ := ov i hi
      rw [getD_set (l := sO s) c4' hi]
      by_cases w : i = o.toNat
      · obtain ⟨u1, u2, u3⟩ := p1 w
        rw [if_pos w, u1, u2, u3, if_pos rfl]
      · obtain ⟨u1, u2, u3⟩ := p2 w
        rw [if_neg w, u1, u2, u3]; exact c3 i hi
  refine ym_chg (h0 := h) (a := aFds o.toNat) (by omega) xg (mcF_tr cf1 (mcF_d F)) (fun g' s' xs cf e eo et => ⟨fun _ => ?_, fun w => absurd w (by omega)⟩) (fun g' xs cf e => ⟨fun w => absurd rfl w, fun _ => ?_⟩)
  · rw [e] at k
    have h4 : o.toNat < 4 := by omega
    have oe : o = ((o.toNat : Nat) : Int) := by omega
    have op : ovP (sD s') ((o.toNat : Nat) : Int) := by
      refine ⟨by omega, by omega, ?_⟩
      unfold ovA
      rw [eo]
      show (((sO s).set o.toNat (t, f)).getD ((o.toNat : Nat) : Int).toNat (-1, 0)).1 ≠ -1
      rw [show ((o.toNat : Nat) : Int).toNat = o.toNat by omega, getD_set (l := sO s) c4' h4, if_pos rfl]
      show t ≠ -1
      omega
    obtain ⟨g8, ge⟩ := MS_8 xs
    rw [oe]
    refine sp_mlay (by omega) xs.1.1 g8 ge xs.1.2.2.2.2.2.2 op (fun g2 s2 F2 L => qV_i ⟨s2, ?_⟩)
    have e31 : aFds o.toNat s' = gI g2 343 31 := by
      unfold aFds
      rw [show (layD (sTs s') (sD s') o.toNat).1 = mFs g2 from congrArg Prod.fst L.1, mFs_len]
      have := L.2
      omega
    rw [← e31]
    exact k g2 (MS_L F2 xs) (mcF_tr cf (mcF_L F2))
  · rw [e] at k
    exact k g' xs cf
theorem ym_remove {o : Int} (hd : 8 ≤ d) (x : MS h s) (k : ∀ g, MS g (rRem s o).2 → mcF h g → Q (some (vI (rRem s o).1)) g) : wpN G d M_X11_remove 0 (zar 0 [vR 343, vI o]) [] h Q := by
  have hS := x.1.1
  obtain ⟨h8, e8⟩ := MS_8 x
  obtain ⟨hP, h01⟩ := mHas_P (o := o) h8 e8
  refine vc_X11_remove_0 o h hS (by omega) (fun y1 y2 y3 g => y1 = o ∧ y2 = (ovA (sD s) o.toNat).2 ∧ y3 = ((1 : Nat) : Int) ∧ wpN G d M_X11_remove 24 [(0, vR 343), (1, vI o), (2, vI (ovA (sD s) o.toNat).2), (3, vI ((1 : Nat) : Int))] [] g Q) ?_ (sp_isPresent (by omega) hS (fun r er => qI_i ⟨hS, fun z => ?_, fun z => ?_⟩))
  · rintro _ _ _ _ ⟨z0, z1, z2, z4⟩
    rw [z0, z1, z2]
    exact z4
  · have op : ovP (sD s) o := hP.mp (by omega)
    have er2 : rRem s o = chR s (sB s, (sO s).set o.toNat (-1, 0)) (fun _ => (ovA (sD s) o.toNat).2) := by unfold rRem; rw [if_pos op]
    have ho : 0 ≤ o ∧ o < 4 := ⟨op.1, op.2.1⟩
    have oe : o = ((o.toNat : Nat) : Int) := by omega
    rw [er2] at k
    refine ym_keep (by omega) x (fun h1 xm cf1 e1 => qV_i ⟨xm.1.1, ?_⟩)
    obtain ⟨s1, o1, d1⟩ := MM_8 xm
    obtain ⟨a1, a2, a3⟩ := mdOk_e o1
    obtain ⟨c1, c2, c3, c4⟩ := MM_c xm
    have c4' : (sO s).length = 4 := c4
    have h4 : o.toNat < 4 := by omega
    have ov0 : gI h1 344 (201 + 3 * o.toNat) = 1 := by
      have w := op.2.2
      unfold ovA at w
      rw [c3 _ h4] at w
      by_cases q : gI h1 344 (201 + 3 * o.toNat) = 1
      · exact q
      · rw [if_neg q] at w; exact absurd rfl w
    have of0 : (ovA (sD s) o.toNat).2 = gI h1 344 (203 + 3 * o.toNat) := by
      unfold ovA
      rw [c3 _ h4, if_pos ov0]
    have loop : ∀ (m i : Nat) (g : zHp), i + m = 4 → 1 ≤ i → zSh g → zF4 m344 h1 g → (∀ j : Nat, gI g 344 j = if 201 + 3 * o.toNat ≤ j ∧ j < 200 + i + 3 * o.toNat then 0 else gI h1 344 j) → wpN G d M_X11_remove 24 [(0, vR 343), (1, vI o), (2, vI (ovA (sD s) o.toNat).2), (3, vI (i : Int))] [] g Q := by
      intro m
      induction m with
      | zero =>
        intro i g hi hi1 sg F at1
        have lo : ∀ j : Nat, j ≤ 200 → gI g 344 j = gI h1 344 j := fun j hj => by rw [at1, if_neg (by omega)]
        have xg : MM g s (sB s, (sO s).set o.toNat (-1, 0)) := by
          refine MM_d F (mdOk_i (by rw [lo 200 (by omega)]; exact a1) (fun j hj => by rw [lo j (by omega)]; exact a2 j hj) (fun t ht q => ?_)) (mdoc ?_ ?_ (fun t ht => ?_)) xm
          · by_cases w : t = o.toNat
            · rw [at1, if_pos (by omega)] at q; omega
            · rw [at1, if_neg (by omega)] at q
              rw [at1, if_neg (by omega), at1, if_neg (by omega), lo 200 (by omega)]
              exact a3 t ht q
          · rw [lo 200 (by omega), show sB s = lst (gI h1 344) (gI h1 344 200) from c2]
            exact lst_eq rfl (fun j hj => lo j (by omega))
          · rw [List.length_set]; exact c4'
          · rw [getD_set (l := sO s) c4' ht]
            by_cases w : t = o.toNat
            · have z : gI g 344 (201 + 3 * t) = 0 := by rw [at1, if_pos (by omega)]
              rw [if_pos w, z, if_neg (by omega)]
            · have z1 : gI g 344 (201 + 3 * t) = gI h1 344 (201 + 3 * t) := by rw [at1, if_neg (by omega)]
              have z2 : gI g 344 (202 + 3 * t) = gI h1 344 (202 + 3 * t) := by rw [at1, if_neg (by omega)]
              have z3 : gI g 344 (203 + 3 * t) = gI h1 344 (203 + 3 * t) := by rw [at1, if_neg (by omega)]
              rw [if_neg w, z1, z2, z3]
              exact c3 t ht
        refine vc_X11_remove_24 o _ i g sg (by omega) (fun _ _ _ _ => False) (fun _ _ _ _ w => w.elim) ⟨fun _ => ?_, fun w => by omega⟩
        refine ym_chg (h0 := h) (a := fun _ => (ovA (sD s) o.toNat).2) (by omega) xg (mcF_tr cf1 (mcF_d F)) (fun g' s' xs cf e _ _ => ⟨fun w => absurd w (by omega), fun _ => ?_⟩) (fun g' xs cf e => ⟨fun _ => ?_, fun w => absurd rfl w⟩)
        · rw [e] at k
          exact k g' xs cf
        · rw [e] at k
          exact k g' xs cf
      | succ m ih =>
        intro i g hi hi1 sg F at1
        refine vc_X11_remove_24 o _ i g sg (by omega) (fun y1 y2 y3 g' => y1 = o ∧ y2 = (ovA (sD s) o.toNat).2 ∧ y3 = ((i + 1 : Nat) : Int) ∧ g' = sI g 344 (200 + i + 3 * o.toNat) 0) ?_ ⟨fun w => by omega, fun w => ⟨by omega, by omega, by omega, by omega, fun h7 e7 => ⟨by omega, fun x9 e9 _ => ⟨rfl, rfl, by omega, by rw [e7, show (200 + (i : Int) + 3 * o).toNat = 200 + i + 3 * o.toNat by omega]⟩⟩⟩⟩
        rintro _ _ _ _ ⟨z0, z1, z2, z4⟩
        rw [z0, z1, z2, z4]
        refine ih (i + 1) _ (by omega) (by omega) sg (F.tr (zF4.sI rfl)) (fun j => ?_)
        rw [gI_sI]
        by_cases q : j = 200 + i + 3 * o.toNat
        · rw [if_pos ⟨rfl, q⟩, if_pos (by omega)]
        · rw [if_neg (fun w => q w.2), at1]
          by_cases q2 : 201 + 3 * o.toNat ≤ j ∧ j < 200 + i + 3 * o.toNat
          · rw [if_pos q2, if_pos (by omega)]
          · rw [if_neg q2, if_neg (by omega)]
    have go := loop 3 1 h1 rfl (by omega) s1 zF4.rf (fun j => by rw [if_neg (by omega)])
    rw [show zar 0 [vR 343, vI o] = zar 0 [vR 343, vI ((o.toNat : Nat) : Int)] by rw [← oe]]
    exact sp_offsetOf s1 h4 (qI_i ⟨s1, fun _ => ⟨oe.symm ▸ rfl, by rw [of0], rfl, go⟩⟩)
  · have np : ¬ ovP (sD s) o := fun w => by have := hP.mpr w; omega
    have e : rRem s o = (-1001, s) := by unfold rRem; rw [if_neg np]
    rw [e] at k; exact k h x mcF_rf
end MCHG3
