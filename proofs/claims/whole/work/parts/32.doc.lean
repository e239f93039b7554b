/-! frames: which cells a method changes -/
def zFr (P : Nat → Prop) (h h' : zHp) : Prop := (∀ b j, ¬ P b → gI h' b j = gI h b j) ∧ (∀ b j, gL h' b j = gL h b j) ∧ ∀ b j, gR h' b j = gR h b j
theorem zFr.rf {P : Nat → Prop} {h : zHp} : zFr P h h := ⟨fun _ _ _ => rfl, fun _ _ => rfl, fun _ _ => rfl⟩
theorem zFr.tr {P : Nat → Prop} {h h1 h2 : zHp} (a : zFr P h h1) (b : zFr P h1 h2) : zFr P h h2 := ⟨fun x j hx => (b.1 x j hx).trans (a.1 x j hx), fun x j => (b.2.1 x j).trans (a.2.1 x j), fun x j => (b.2.2 x j).trans (a.2.2 x j)⟩
theorem zFr.mono {P P' : Nat → Prop} {h h' : zHp} (a : zFr P h h') (hp : ∀ b, P b → P' b) : zFr P' h h' := ⟨fun x j hx => a.1 x j (fun q => hx (hp x q)), a.2.1, a.2.2⟩
theorem zFr.sI {P : Nat → Prop} {h : zHp} {a j : Nat} {z : Int} (hp : P a) : zFr P h (sI h a j z) :=
  ⟨fun b k hb => by rw [gI_sI, if_neg (fun q => hb (by rw [q.1]; exact hp))], fun _ _ => rfl, fun _ _ => rfl⟩
theorem zFr.cpI {P : Nat → Prop} {h : zHp} {a0 sp a dp k : Nat} (hp : P a) : zFr P h (cpI h a0 sp a dp k) :=
  ⟨fun b j hb => cpI_ne (fun e => hb (by rw [e]; exact hp)), fun _ _ => rfl, fun _ _ => rfl⟩
theorem zFr.Sh {P : Nat → Prop} {h h' : zHp} (a : zFr P h h') (hS : zSh h) : zSh h' := fun x j hx => (a.2.2 x j).trans (hS x j hx)
def lst (f : Nat → Int) (n : Int) : List Int := (List.range n.toNat).map f
theorem lst_eq {f g : Nat → Int} {n m : Int} (e : n = m) (hf : ∀ j : Nat, (j : Int) < n → f j = g j) : lst f n = lst g m := by
  subst e
  unfold lst
  exact List.map_congr_left (fun j hj => hf j (by have := List.mem_range.mp hj; omega))
theorem lst_len {f : Nat → Int} {n : Int} : (lst f n).length = n.toNat := by simp [lst]
theorem lst_get {f : Nat → Int} {n : Int} {j : Nat} (hj : (j : Int) < n) : (lst f n)[j]? = some (f j) := by
  rw [lst, List.getElem?_map, List.getElem?_range (by omega)]
  rfl
theorem lst_none {f : Nat → Int} {n : Int} {j : Nat} (hj : n ≤ j) : (lst f n)[j]? = none := by
  rw [List.getElem?_eq_none]
  rw [lst_len]
  omega
theorem lst_inj {f g : Nat → Int} {n m : Int} (h0 : 0 ≤ n) (h1 : 0 ≤ m) (e : lst f n = lst g m) : n = m ∧ ∀ j : Nat, (j : Int) < n → f j = g j := by
  have hl := congrArg List.length e
  rw [lst_len, lst_len] at hl
  have hn : n = m := by omega
  refine ⟨hn, fun j hj => ?_⟩
  have q : (lst f n)[j]? = (lst g m)[j]? := by rw [e]
  rw [lst_get hj, lst_get (by omega)] at q
  exact Option.some.inj q
/-! documents -/
def dIn (d : Nat) : Nat → Prop := fun b => d + 1 ≤ b ∧ b ≤ d + 4
def dOv (h : zHp) (d : Nat) : List (Int × Int) := (List.range 4).map (fun o => (gI h (d + 3) o, gI h (d + 4) o))
def dv (h : zHp) (d : Nat) : List Int × List (Int × Int) := (lst (gI h (d + 2)) (gI h (d + 1) 1), dOv h d)
def dOk (h : zHp) (d : Nat) : Prop := (0 ≤ gI h (d + 1) 1 ∧ gI h (d + 1) 1 ≤ 200) ∧ (∀ j : Nat, j < 200 → 0 ≤ gI h (d + 2) j ∧ gI h (d + 2) j ≤ 255) ∧
  ∀ o : Nat, o < 4 → (gI h (d + 3) o = -1 ∧ gI h (d + 4) o = 0) ∨ ((0 ≤ gI h (d + 3) o ∧ gI h (d + 3) o ≤ 3) ∧ 0 ≤ gI h (d + 4) o ∧ gI h (d + 4) o ≤ gI h (d + 1) 1)
theorem zdocs_all : ∀ a, a < 370 → zTAU a = (102, 3) → a = 8 ∨ (15 ≤ a ∧ a ≤ 75 ∧ a % 5 = 0) := by decide +kernel
theorem zdocs {a : Nat} (h : zT 369 a = (102, 3)) : a = 8 ∨ (15 ≤ a ∧ a ≤ 75 ∧ a % 5 = 0) := by
  obtain ⟨q1, q2, q3⟩ := zT_at h (by decide)
  exact zdocs_all a (by omega) q3
theorem zdoc_of {a : Nat} (h : a = 8 ∨ (15 ≤ a ∧ a ≤ 75 ∧ a % 5 = 0)) : zT 369 a = (102, 3) := by
  have q : ∀ a, a < 76 → (a = 8 ∨ (15 ≤ a ∧ a ≤ 75 ∧ a % 5 = 0)) → zTAU a = (102, 3) := by decide +kernel
  exact zT_of (q a (by omega) h) (by decide)
theorem zdocL {a : Nat} (h : zT 369 a = (102, 3)) : zlen (a + 1 + 1) = 200 := by
  have q := (zT_at (zdocB h) (by decide)).2.2
  show (zTAU (a + 2)).2 = 200
  rw [q]
theorem dv_eq {h h' : zHp} {a b : Nat} (e1 : gI h' (a + 1) 1 = gI h (b + 1) 1) (e2 : ∀ j : Nat, (j : Int) < gI h (b + 1) 1 → gI h' (a + 2) j = gI h (b + 2) j) (e3 : ∀ o : Nat, o < 4 → gI h' (a + 3) o = gI h (b + 3) o ∧ gI h' (a + 4) o = gI h (b + 4) o) : dv h' a = dv h b := by
  unfold dv dOv
  rw [lst_eq e1 (fun j hj => e2 j (by omega))]
  congr 1
  exact List.map_congr_left (fun o ho => by obtain ⟨q1, q2⟩ := e3 o (List.mem_range.mp ho); rw [q1, q2])
theorem dv_fr {P : Nat → Prop} {h h' : zHp} (a : Nat) (f : zFr P h h') (hp : ∀ b, dIn a b → ¬ P b) : dv h' a = dv h a :=
  dv_eq (f.1 _ _ (hp _ ⟨by omega, by omega⟩)) (fun _ _ => f.1 _ _ (hp _ ⟨by omega, by omega⟩)) (fun _ _ => ⟨f.1 _ _ (hp _ ⟨by omega, by omega⟩), f.1 _ _ (hp _ ⟨by omega, by omega⟩)⟩)
theorem dOk_fr {P : Nat → Prop} {h h' : zHp} {a : Nat} (f : zFr P h h') (hp : ∀ b, dIn a b → ¬ P b) (k : dOk h a) : dOk h' a := by
  have e1 : ∀ j, gI h' (a + 1) j = gI h (a + 1) j := fun j => f.1 _ _ (hp _ ⟨by omega, by omega⟩)
  have e2 : ∀ j, gI h' (a + 2) j = gI h (a + 2) j := fun j => f.1 _ _ (hp _ ⟨by omega, by omega⟩)
  have e3 : ∀ j, gI h' (a + 3) j = gI h (a + 3) j := fun j => f.1 _ _ (hp _ ⟨by omega, by omega⟩)
  have e4 : ∀ j, gI h' (a + 4) j = gI h (a + 4) j := fun j => f.1 _ _ (hp _ ⟨by omega, by omega⟩)
  unfold dOk
  simp only [e1, e2, e3, e4]
  exact k
section DOC
variable {G : zG} {d : Nat} {Q : Option zV → zHp → Prop} {a : Nat} {h : zHp}
def dHas (h : zHp) (a : Nat) (o : Int) : Int := if 0 ≤ o ∧ o < 4 ∧ gI h (a + 3) o.toNat ≠ -1 then 1 else 0
theorem sp_X2_isPresent {o : Int} (hT : zT 369 a = (102, 3)) (hS : zSh h) (k : ∀ r, r = dHas h a o → Q (some (vI r)) h) : wpN G d M_X2_isPresent 0 (zar 0 [vR a, vI o]) [] h Q := by
  refine vc_X2_isPresent_0 a hT o h hS (Nat.zero_le _) ⟨fun c => k _ ?_, fun c => ⟨fun c2 => k _ ?_, fun c2 => ⟨⟨by omega, by omega⟩, fun c3 => k _ ?_, fun c3 => k _ ?_⟩⟩⟩ <;> unfold dHas
  · rw [if_neg (by omega)]
  · rw [if_neg (by omega)]
  · rw [if_neg (fun q => q.2.2 c3)]
  · rw [if_pos ⟨c, c2, c3⟩]
theorem sp_X2_drop {o : Int} (hd : 1 ≤ d) (hT : zT 369 a = (102, 3)) (hS : zSh h) (hp : dHas h a o = 1) (k : Q none (sI (sI h (a + 3) o.toNat (-1)) (a + 4) o.toNat 0)) : wpN G d M_X2_drop 0 (zar 0 [vR a, vI o]) [] h Q := by
  have ho : 0 ≤ o ∧ o < 4 := by
    unfold dHas at hp
    split at hp
    · rename_i q; exact ⟨q.1, q.2.1⟩
    · omega
  refine vc_X2_drop_0 a hT o h hS hd (sp_X2_isPresent hT hS (fun r er => qI_i ⟨hS, fun c => by omega, fun c => ⟨⟨by omega, by omega⟩, fun h6 e6 => ⟨⟨by omega, by omega⟩, fun h8 e8 => ?_⟩⟩⟩))
  rw [e8, e6]
  exact k
/-- how many of the first n overlays are there -/
def dCnt (h : zHp) (a : Nat) : Nat → Int
  | 0 => 0
  | n + 1 => dCnt h a n + dHas h a n
theorem dHas_01 (h : zHp) (a : Nat) (o : Int) : dHas h a o = 0 ∨ dHas h a o = 1 := by unfold dHas; split <;> simp
theorem dCnt_bd (h : zHp) (a : Nat) : ∀ n, 0 ≤ dCnt h a n ∧ dCnt h a n ≤ n
  | 0 => by simp [dCnt]
  | n + 1 => by
    have ih := dCnt_bd h a n
    have := dHas_01 h a n
    rw [dCnt]
    omega
theorem sp_X2_presentOverlays (hd : 1 ≤ d) (hT : zT 369 a = (102, 3)) (hS : zSh h) (k : Q (some (vI (dCnt h a 4))) h) : wpN G d M_X2_presentOverlays 0 (zar 0 [vR a]) [] h Q := by
  have loop : ∀ (n j : Nat), j + n = 4 → wpN G d M_X2_presentOverlays 4 [(0, vR a), (1, vI (dCnt h a j)), (2, vI (j : Int))] [] h Q := by
    intro n
    induction n with
    | zero =>
      intro j hj
      have ej : j = 4 := by omega
      refine vc_X2_presentOverlays_4 a hT _ j h hS hd (fun _ _ _ _ => False) (fun _ _ _ _ q => q.elim) ⟨fun c => by rw [ej]; exact k, fun c => by omega⟩
    | succ n ih =>
      intro j hj
      have bd := dCnt_bd h a j
      refine vc_X2_presentOverlays_4 a hT _ j h hS hd (fun y0 y1 y2 h' => y0 = a ∧ y1 = dCnt h a (j + 1) ∧ y2 = ((j + 1 : Nat) : Int) ∧ h' = h) ?_ ⟨fun c => by omega, fun c => sp_X2_isPresent hT hS (fun r er => qI_i ⟨hS, fun c0 => ⟨by omega, fun x ex _ => ⟨rfl, ?_, by omega, rfl⟩⟩, fun c0 => ⟨by omega, fun x ex => ⟨by omega, fun x2 ex2 _ => ⟨rfl, ?_, by omega, rfl⟩⟩⟩⟩)⟩
      · rintro _ _ _ _ ⟨e0, e1, e2, e3⟩
        rw [e0, e1, e2, e3]
        exact ih (j + 1) (by omega)
      · rw [dCnt]; omega
      · have := dHas_01 h a j
        rw [dCnt]; omega
  refine vc_X2_presentOverlays_0 a hT h hS hd (fun y0 y1 y2 h' => y0 = a ∧ y1 = 0 ∧ y2 = 0 ∧ h' = h) ?_ (fun _ => ⟨rfl, rfl, rfl, rfl⟩)
  rintro _ _ _ _ ⟨e0, e1, e2, e3⟩
  rw [e0, e1, e2, e3]
  exact loop 4 0 rfl
theorem sp_X2_uses {t : Int} (hd : 1 ≤ d) (hT : zT 369 a = (102, 3)) (hS : zSh h) (k1 : (∃ o : Nat, o < 4 ∧ dHas h a o = 1 ∧ gI h (a + 3) o = t) → Q (some (vI 1)) h) (k0 : (∀ o : Nat, o < 4 → dHas h a o = 1 → gI h (a + 3) o ≠ t) → Q (some (vI 0)) h) : wpN G d M_X2_uses 0 (zar 0 [vR a, vI t]) [] h Q := by
  have loop : ∀ (n j : Nat), j + n = 4 → (∀ o : Nat, o < j → dHas h a o = 1 → gI h (a + 3) o ≠ t) → wpN G d M_X2_uses 2 [(0, vR a), (1, vI t), (2, vI (j : Int))] [] h Q := by
    intro n
    induction n with
    | zero =>
      intro j hj hno
      have ej : j = 4 := by omega
      refine vc_X2_uses_2 a hT t j h hS hd (fun _ _ _ _ => False) (fun _ _ _ _ q => q.elim) ⟨fun c => k0 (by rw [← ej]; exact hno), fun c => by omega⟩
    | succ n ih =>
      intro j hj hno
      have hj4 : j < 4 := by omega
      refine vc_X2_uses_2 a hT t j h hS hd (fun y0 y1 y2 h' => y0 = a ∧ y1 = t ∧ y2 = ((j + 1 : Nat) : Int) ∧ h' = h ∧ (dHas h a j = 1 → gI h (a + 3) j ≠ t)) ?_ ⟨fun c => by omega, fun c => sp_X2_isPresent hT hS (fun r er => qI_i ⟨hS, fun c0 => ⟨by omega, fun x ex _ => ⟨rfl, rfl, by omega, rfl, fun q => by omega⟩⟩, fun c0 => ⟨⟨by omega, by omega⟩, fun c1 => ⟨by omega, fun x ex _ => ⟨rfl, rfl, by omega, rfl, fun _ => c1⟩⟩, fun c1 => k1 ⟨j, hj4, ?_, c1⟩⟩⟩)⟩
      · rintro _ _ _ _ ⟨e0, e1, e2, e3, e4⟩
        rw [e0, e1, e2, e3]
        refine ih (j + 1) (by omega) (fun o ho => ?_)
        by_cases eo : o = j
        · rw [eo]; exact e4
        · exact hno o (by omega)
      · have := dHas_01 h a j
        omega
  refine vc_X2_uses_0 a hT t h hS hd (fun y0 y1 y2 h' => y0 = a ∧ y1 = t ∧ y2 = 0 ∧ h' = h) ?_ (fun _ => ⟨rfl, rfl, rfl, rfl⟩)
  rintro _ _ _ _ ⟨e0, e1, e2, e3⟩
  rw [e0, e1, e2, e3]
  exact loop 4 0 rfl (fun o ho => by omega)
/-- a document becomes another's copy -/
theorem sp_X2_become {b : Nat} (hd : 2 ≤ d) (hT : zT 369 a = (102, 3)) (hTb : zT 369 b = (102, 3)) (hab : a ≠ b) (hS : zSh h) (ha : dOk h a) (hb : dOk h b) (k : ∀ h', zSh h' → zFr (dIn a) h h' → dv h' a = dv h b → dOk h' a → Q none h') : wpN G d M_X2_become 0 (zar 0 [vR a, vR b]) [] h Q := by
  have pa := zdocs hT
  have pb := zdocs hTb
  have hLa := zdocL hT
  have hLb := zdocL hTb
  have hT1 := zdoc0 hT
  have hTb1 := zdoc0 hTb
  -- the state of the loop
  have loop : ∀ (n j : Nat) (g : zHp), j + n = 4 → zFr (dIn a) h g → gI g (a + 1) 1 = gI h (b + 1) 1 → (∀ i : Nat, (i : Int) < gI h (b + 1) 1 → gI g (a + 2) i = gI h (b + 2) i) → (∀ i : Nat, gI h (b + 1) 1 ≤ i → gI g (a + 2) i = gI h (a + 2) i) → (∀ o : Nat, o < j → gI g (a + 3) o = gI h (b + 3) o ∧ gI g (a + 4) o = gI h (b + 4) o) → wpN G d M_X2_become 21 [(0, vR a), (1, vR b), (2, vI (j : Int))] [] g Q := by
    intro n
    induction n with
    | zero =>
      intro j g hj f e1 e2 e2' e3
      have ej : j = 4 := by omega
      rw [ej] at e3
      refine vc_X2_become_21 a hT b hTb j g (f.Sh hS) hd (fun _ _ _ _ => False) (fun _ _ _ _ q => q.elim) ⟨fun c => k g (f.Sh hS) f (dv_eq e1 e2 e3) ⟨?_, ?_, ?_⟩, fun c => by omega⟩
      · rw [e1]; exact hb.1
      · intro i hi
        by_cases q : (i : Int) < gI h (b + 1) 1
        · rw [e2 i q]; exact hb.2.1 i hi
        · rw [e2' i (by omega)]; exact ha.2.1 i hi
      · intro o ho
        rw [(e3 o ho).1, (e3 o ho).2, e1]
        exact hb.2.2 o ho
    | succ n ih =>
      intro j g hj f e1 e2 e2' e3
      refine vc_X2_become_21 a hT b hTb j g (f.Sh hS) hd (fun y0 y1 y2 h' => y0 = a ∧ y1 = b ∧ y2 = ((j + 1 : Nat) : Int) ∧ h' = sI (sI g (a + 3) j (gI g (b + 3) j)) (a + 4) j (gI g (b + 4) j)) ?_ ⟨fun c => by omega, fun c => ⟨⟨by omega, by omega⟩, ⟨by omega, by omega⟩, fun h2 q2 => ⟨⟨by omega, by omega⟩, ⟨by omega, by omega⟩, fun h4 q4 => ⟨by omega, fun x ex _ => ⟨rfl, rfl, by omega, ?_⟩⟩⟩⟩⟩
      · rintro _ _ _ _ ⟨q0, q1, q2, q3⟩
        rw [q0, q1, q2, q3]
        refine ih (j + 1) _ (by omega) (f.tr ((zFr.sI ⟨by omega, by omega⟩).tr (zFr.sI ⟨by omega, by omega⟩))) ?_ ?_ ?_ ?_
        · rw [gI_sI, if_neg (by omega), gI_sI, if_neg (by omega)]; exact e1
        · intro i hi; rw [gI_sI, if_neg (by omega), gI_sI, if_neg (by omega)]; exact e2 i hi
        · intro i hi; rw [gI_sI, if_neg (by omega), gI_sI, if_neg (by omega)]; exact e2' i hi
        · intro o ho
          have f3 : gI g (b + 3) j = gI h (b + 3) j := f.1 _ _ (fun q => by obtain ⟨q1, q2⟩ := q; omega)
          have f4 : gI g (b + 4) j = gI h (b + 4) j := f.1 _ _ (fun q => by obtain ⟨q1, q2⟩ := q; omega)
          by_cases eo : o = j
          · rw [eo]
            constructor
            · rw [gI_sI, if_neg (by omega), gI_sI, if_pos ⟨rfl, rfl⟩]; exact f3
            · rw [gI_sI, if_pos ⟨rfl, rfl⟩]; exact f4
          · constructor
            · rw [gI_sI, if_neg (by omega), gI_sI, if_neg (by omega)]; exact (e3 o (by omega)).1
            · rw [gI_sI, if_neg (by omega), gI_sI, if_neg (by omega)]; exact (e3 o (by omega)).2
      · rw [q4, q2]
        have w : gI (sI g (a + 3) (j : Int).toNat (gI g (b + 3) (j : Int).toNat)) (b + 4) (j : Int).toNat = gI g (b + 4) (j : Int).toNat := by rw [gI_sI, if_neg (by omega)]
        rw [w, show (j : Int).toNat = j by omega]
  refine vc_X2_become_0 a hT b hTb h hS hd (fun y0 y1 y2 h' => y0 = a ∧ y1 = b ∧ y2 = 0 ∧ h' = rBec h (a + 1) (b + 1) 0 (gI h (b + 1) 1)) ?_ (sp_X0_become (by omega) hT1 hTb1 hS ⟨hb.1.1, by rw [hLb]; exact hb.1.2⟩ (by omega) hb.1.1 (by omega) (by rw [hLa]; exact hb.1.2) (qV_i ⟨hS, fun _ => ⟨rfl, rfl, rfl, rfl⟩⟩))
  rintro _ _ _ _ ⟨q0, q1, q2, q3⟩
  rw [q0, q1, q2, q3]
  have hB := hb.1
  have cp : ∀ i : Nat, gI (rBec h (a + 1) (b + 1) 0 (gI h (b + 1) 1)) (a + 2) i = if (i : Int) < gI h (b + 1) 1 then gI h (b + 2) i else gI h (a + 2) i := by
    intro i
    unfold rBec
    rw [gI_sI, if_neg (by omega)]
    show (if a + 2 = a + 1 + 1 ∧ 0 ≤ i ∧ i < 0 + (gI h (b + 1) 1).toNat then h.1 (b + 1 + 1) ((0 : Int).toNat + (i - 0)) else h.1 (a + 2) i) = _
    by_cases q : (i : Int) < gI h (b + 1) 1
    · rw [if_pos ⟨rfl, by omega, by omega⟩, if_pos q, show (0 : Int).toNat + (i - 0) = i by omega]
      rfl
    · rw [if_neg (by omega), if_neg q]
      rfl
  refine loop 4 0 _ rfl ((zFr.cpI (P := dIn a) ⟨by omega, by omega⟩).tr (zFr.sI ⟨by omega, by omega⟩)) ?_ ?_ ?_ (fun o ho => by omega)
  · show gI (sI _ (a + 1) 1 _) (a + 1) 1 = _
    rw [gI_sI, if_pos ⟨rfl, rfl⟩]
  · intro i hi; rw [cp, if_pos hi]
  · intro i hi; rw [cp, if_neg (by omega)]
end DOC
