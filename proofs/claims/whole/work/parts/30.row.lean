section ROW
variable {G : zG} {d : Nat} {Q : Option zV → zHp → Prop} {a : Nat} {h : zHp}
def rHas (h : zHp) (a : Nat) (i : Int) : Int := if 0 ≤ i ∧ i < gI h a 1 then 1 else 0
def rGet (h : zHp) (a : Nat) (i : Int) : Int := if 0 ≤ i ∧ i < gI h a 1 then gI h (a + 1) i.toNat else -1
def rPut (h : zHp) (a : Nat) (i v : Int) : zHp := if 0 ≤ i ∧ i < gI h a 1 then sI h (a + 1) i.toNat v else h
/-- a row in order: its size is within its room -/
def rOk (h : zHp) (a : Nat) : Prop := 0 ≤ gI h a 1 ∧ gI h a 1 ≤ zlen (a + 1)
theorem sp_X0_has {i : Int} (hT : zT 369 a = (100, 2)) (hS : zSh h) (k : ∀ r, r = rHas h a i → Q (some (vI r)) h) : wpN G d M_X0_has 0 (zar 0 [vR a, vI i]) [] h Q := by
  refine vc_X0_has_0 a hT i h hS (Nat.zero_le _) ⟨fun c => k _ ?_, fun c => ⟨fun c2 => k _ ?_, fun c2 => k _ ?_⟩⟩ <;> unfold rHas <;> split <;> omega
theorem sp_X0_get {i : Int} (hT : zT 369 a = (100, 2)) (hS : zSh h) (hz : gI h a 1 ≤ zlen (a + 1)) (k : ∀ r, r = rGet h a i → Q (some (vI r)) h) : wpN G d M_X0_get 0 (zar 0 [vR a, vI i]) [] h Q := by
  refine vc_X0_get_0 a hT i h hS (Nat.zero_le _) ⟨fun c => k _ ?_, fun c => ⟨fun c2 => k _ ?_, fun c2 => ⟨⟨c, by omega⟩, k _ ?_⟩⟩⟩ <;> unfold rGet <;> split <;> omega
theorem sp_X0_put {i v : Int} (hT : zT 369 a = (100, 2)) (hS : zSh h) (hz : gI h a 1 ≤ zlen (a + 1)) (k : ∀ h', h' = rPut h a i v → Q none h') : wpN G d M_X0_put 0 (zar 0 [vR a, vI i, vI v]) [] h Q := by
  refine vc_X0_put_0 a hT i v h hS (Nat.zero_le _) ⟨fun c => k _ ?_, fun c => ⟨fun c2 => k _ ?_, fun c2 => ⟨⟨c, by omega⟩, fun h3 e => k _ ?_⟩⟩⟩
  · rw [rPut, if_neg (by omega)]
  · rw [rPut, if_neg (by omega)]
  · rw [rPut, if_pos ⟨c, c2⟩, e]
def rApp (h : zHp) (a : Nat) (v : Int) : zHp := sI (sI h (a + 1) (gI h a 1).toNat v) a 1 (gI h a 1 + 1)
theorem sp_X0_append {v : Int} (hT : zT 369 a = (100, 2)) (hS : zSh h) (hz : rOk h a) (k1 : gI h a 1 < zlen (a + 1) → Q (some (vI 1)) (rApp h a v)) (k2 : gI h a 1 = zlen (a + 1) → Q (some (vI 0)) h) : wpN G d M_X0_append 0 (zar 0 [vR a, vI v]) [] h Q := by
  obtain ⟨z1, z2⟩ := hz
  have z3 := zlen_le (a + 1)
  refine vc_X0_append_0 a hT v h hS (Nat.zero_le _) ⟨fun c => ⟨⟨z1, c⟩, fun h2 e2 => ?_⟩, fun c => k2 (by omega)⟩
  have q : gI h2 a 1 = gI h a 1 := by rw [e2, gI_sI, if_neg (by omega)]
  refine ⟨by omega, fun h4 e4 => ?_⟩
  rw [q, e2] at e4
  rw [e4]
  exact k1 c
/-- a copy of n bytes of the row b from at on -/
def rBec (h : zHp) (a b : Nat) (i n : Int) : zHp := sI (cpI h (b + 1) i.toNat (a + 1) 0 n.toNat) a 1 n
theorem sp_X0_become {b : Nat} {i n : Int} (hd : 1 ≤ d) (hT : zT 369 a = (100, 2)) (hTb : zT 369 b = (100, 2)) (hS : zSh h) (hz : rOk h b) (g0 : 0 ≤ i) (g1 : 0 ≤ n) (g2 : i + n ≤ gI h b 1) (g3 : n ≤ zlen (a + 1)) (k : Q none (rBec h a b i n)) : wpN G d M_X0_become 0 (zar 0 [vR a, vR b, vI i, vI n]) [] h Q := by
  obtain ⟨z1, z2⟩ := hz
  have z3 := zlen_le (b + 1)
  refine vc_X0_become_0 a hT b hTb i n h hS hd ⟨fun c => by omega, fun _ => ⟨fun c => by omega, fun _ => ⟨by omega, fun c => by omega, fun _ => ⟨fun _ => ⟨by omega, fun h5 e5 h7 e7 => ?_⟩, fun c => by omega⟩⟩⟩⟩
  rw [e7, e5]
  exact k
def rOpen (h : zHp) (a : Nat) (i n : Int) : zHp := sI (cpI h (a + 1) i.toNat (a + 1) (i + n).toNat (gI h a 1 - i).toNat) a 1 (gI h a 1 + n)
theorem cpI_ne {h : zHp} {a0 sp a dp k b j : Nat} (hb : b ≠ a) : gI (cpI h a0 sp a dp k) b j = gI h b j := by
  show (if b = a ∧ _ then _ else h.1 b j) = h.1 b j
  rw [if_neg (fun q => hb q.1)]
theorem sp_X0_openGap {i n : Int} (hd : 1 ≤ d) (hT : zT 369 a = (100, 2)) (hS : zSh h) (hz : rOk h a) (g0 : 0 ≤ i) (g1 : i ≤ gI h a 1) (g2 : 0 ≤ n) (g3 : gI h a 1 + n ≤ zlen (a + 1)) (k : Q none (rOpen h a i n)) : wpN G d M_X0_openGap 0 (zar 0 [vR a, vI i, vI n]) [] h Q := by
  obtain ⟨z1, z2⟩ := hz
  have z3 := zlen_le (a + 1)
  refine vc_X0_openGap_0 a hT i n h hS hd ⟨fun c => by omega, fun _ => ⟨fun c => by omega, fun _ => ⟨fun c => by omega, fun _ => ⟨by omega, fun _ => ⟨by omega, by omega, by omega, fun h5 e5 => ?_⟩, fun c => by omega⟩⟩⟩⟩
  have q : gI h5 a 1 = gI h a 1 := by rw [e5, cpI_ne (by omega)]
  refine ⟨by omega, fun h7 e7 => ?_⟩
  rw [e7, q, e5]
  exact k
def rClose (h : zHp) (a : Nat) (i n : Int) : zHp := sI (cpI h (a + 1) (i + n).toNat (a + 1) i.toNat (gI h a 1 - i - n).toNat) a 1 (gI h a 1 - n)
theorem sp_X0_closeGap {i n : Int} (hd : 1 ≤ d) (hT : zT 369 a = (100, 2)) (hS : zSh h) (hz : rOk h a) (g0 : 0 ≤ i) (g2 : 0 ≤ n) (g3 : i + n ≤ gI h a 1) (k : Q none (rClose h a i n)) : wpN G d M_X0_closeGap 0 (zar 0 [vR a, vI i, vI n]) [] h Q := by
  obtain ⟨z1, z2⟩ := hz
  have z3 := zlen_le (a + 1)
  refine vc_X0_closeGap_0 a hT i n h hS hd ⟨fun c => by omega, fun _ => ⟨fun c => by omega, fun _ => ⟨fun c => by omega, fun _ => ⟨by omega, fun _ => ⟨by omega, by omega, by omega, by omega, fun h5 e5 => ?_⟩, fun c => by omega⟩⟩⟩⟩
  have q : gI h5 a 1 = gI h a 1 := by rw [e5, cpI_ne (by omega)]
  refine ⟨by omega, fun h7 e7 => ?_⟩
  rw [e7, q, e5]
  exact k
/-- the first k bytes of the row b put into the row a from i on -/
def rPutAll (h : zHp) (a b : Nat) (i : Int) : Nat → zHp
  | 0 => h
  | k + 1 => rPut (rPutAll h a b i k) a (i + k) (rGet h b k)
theorem rPut_ne {h : zHp} {a b j : Nat} {i v : Int} (hb : b ≠ a + 1) : gI (rPut h a i v) b j = gI h b j := by
  unfold rPut
  split
  · rw [gI_sI, if_neg (fun q => hb q.1)]
  · rfl
theorem rPut_R {h : zHp} {a b j : Nat} {i v : Int} : gR (rPut h a i v) b j = gR h b j := by
  unfold rPut
  split <;> rfl
theorem rPut_Sh {h : zHp} {a : Nat} {i v : Int} (hS : zSh h) : zSh (rPut h a i v) := by
  unfold rPut
  split
  · exact hS
  · exact hS
theorem rPutAll_ne {h : zHp} {a b c j : Nat} {i : Int} (hc : c ≠ a + 1) : ∀ k, gI (rPutAll h a b i k) c j = gI h c j
  | 0 => rfl
  | k + 1 => by rw [rPutAll, rPut_ne hc, rPutAll_ne hc k]
theorem rPutAll_Sh {h : zHp} {a b : Nat} {i : Int} (hS : zSh h) : ∀ k, zSh (rPutAll h a b i k)
  | 0 => hS
  | k + 1 => rPut_Sh (rPutAll_Sh hS k)
theorem sp_X0_putAll {b : Nat} {i : Int} (hd : 1 ≤ d) (hT : zT 369 a = (100, 2)) (hTb : zT 369 b = (100, 2)) (hS : zSh h) (hz : rOk h a) (hzb : rOk h b) (hab : b ≠ a) (g0 : 0 ≤ i) (g1 : i ≤ 1000) (k : Q none (rPutAll h a b i (gI h b 1).toNat)) : wpN G d M_X0_putAll 0 (zar 0 [vR a, vI i, vR b]) [] h Q := by
  have z3 := zlen_le (b + 1)
  obtain ⟨w1, w2⟩ := hzb
  have z4 : (zTAU (b + 1)).2 ≤ 2556 := zlen_all (b + 1) (by have := (zT_at (zrow1 hTb) (by simp)).2.1; omega)
  have z5 : zlen (b + 1) ≤ 2556 := z4
  have hba : b ≠ a + 1 := by
    intro e
    have q := zrow1 hT
    rw [← e, hTb] at q
    exact absurd (congrArg Prod.fst q) (by simp)
  have hba2 : b + 1 ≠ a + 1 := by omega
  have loop : ∀ (n j : Nat), j + n = (gI h b 1).toNat → wpN G d M_X0_putAll 2 [(0, vR a), (1, vI i), (2, vR b), (3, vI (j : Int))] [] (rPutAll h a b i j) Q := by
    intro n
    induction n with
    | zero =>
      intro j hj
      refine vc_X0_putAll_2 a hT i b hTb j (rPutAll h a b i j) (rPutAll_Sh hS j) hd (fun _ _ _ _ _ => False) (fun _ _ _ _ _ q => q.elim) ⟨fun c => ?_, fun c => ?_⟩
      · rw [show j = (gI h b 1).toNat by omega]; exact k
      · rw [rPutAll_ne hba] at c; omega
    | succ n ih =>
      intro j hj
      have e1 : gI (rPutAll h a b i j) b 1 = gI h b 1 := rPutAll_ne hba j
      refine vc_X0_putAll_2 a hT i b hTb j (rPutAll h a b i j) (rPutAll_Sh hS j) hd (fun y0 y1 y2 y3 h' => y0 = a ∧ y1 = i ∧ y2 = b ∧ y3 = ((j + 1 : Nat) : Int) ∧ h' = rPutAll h a b i (j + 1)) ?_ ⟨fun c => ?_, fun c => ⟨by omega, ?_⟩⟩
      · rintro _ _ _ _ _ ⟨e0, e1, e2, e3, e4⟩
        rw [e0, e1, e2, e3, e4]
        exact ih (j + 1) (by omega)
      · omega
      · refine sp_X0_get hTb (rPutAll_Sh hS j) (by rw [e1]; omega) (fun r er => qI_i ⟨rPutAll_Sh hS j, ?_⟩)
        refine sp_X0_put hT (rPutAll_Sh hS j) (by rw [rPutAll_ne (by omega)]; exact hz.2) (fun h' e' => qV_i ⟨by rw [e']; exact rPut_Sh (rPutAll_Sh hS j), by omega, fun x ex _ => ⟨rfl, rfl, rfl, by omega, ?_⟩⟩)
        rw [e', rPutAll, er]
        congr 1
        unfold rGet
        rw [e1, rPutAll_ne hba2]
  refine vc_X0_putAll_0 a hT i b hTb h hS hd (fun y0 y1 y2 y3 h' => y0 = a ∧ y1 = i ∧ y2 = b ∧ y3 = 0 ∧ h' = h) ?_ (fun _ => ⟨rfl, rfl, rfl, rfl, rfl⟩)
  rintro _ _ _ _ _ ⟨e0, e1, e2, e3, e4⟩
  rw [e0, e1, e2, e3, e4]
  exact loop (gI h b 1).toNat 0 (by omega)
end ROW
