/-! reading and writing fields: pure part -/
/-- the number whose first k bytes stand at the places of a field (start s, size sz, little-endian if lit ≠ 0) -/
def rdA (f : Nat → Int) (s sz lit : Int) : Nat → Int
  | 0 => 0
  | k + 1 => 256 * rdA f s sz lit k + f (s + (if lit = 0 then (k : Int) else sz - 1 - k)).toNat
def fSpan (sz : Int) : Int := if sz = 1 then 256 else if sz = 2 then 65536 else 4294967296
def fSz (sz : Int) : Prop := sz = 1 ∨ sz = 2 ∨ sz = 4
/-- the value of a field -/
def fVal (f : Nat → Int) (s sz kind lit : Int) : Int :=
  if kind = 1 ∧ fSpan sz / 2 ≤ rdA f s sz lit sz.toNat then rdA f s sz lit sz.toNat - fSpan sz else rdA f s sz lit sz.toNat
def byOk (f : Nat → Int) (len : Int) : Prop := ∀ j : Nat, (j : Int) < len → 0 ≤ f j ∧ f j ≤ 255
theorem rdA_bd {f : Nat → Int} {s sz lit len : Int} (hb : byOk f len) (h0 : 0 ≤ s) (h1 : s + sz ≤ len) : ∀ k : Nat, (k : Int) ≤ sz → 0 ≤ rdA f s sz lit k ∧ rdA f s sz lit k < 256 ^ k
  | 0, _ => by simp [rdA]
  | k + 1, hk => by
    have ih := rdA_bd hb h0 h1 (lit := lit) k (by omega)
    have hq : 0 ≤ f (s + (if lit = 0 then (k : Int) else sz - 1 - k)).toNat ∧ f (s + (if lit = 0 then (k : Int) else sz - 1 - k)).toNat ≤ 255 := by
      refine hb _ ?_
      split <;> omega
    rw [rdA, Int.pow_succ]
    omega
theorem fVal_bd {f : Nat → Int} {s sz kind lit len : Int} (hb : byOk f len) (h0 : 0 ≤ s) (h1 : s + sz ≤ len) (hs : fSz sz) : (kind ≠ 1 → 0 ≤ fVal f s sz kind lit ∧ fVal f s sz kind lit < fSpan sz) ∧ -2147483648 ≤ fVal f s sz kind lit ∧ fVal f s sz kind lit < 4294967296 := by
  have q := rdA_bd (lit := lit) hb h0 h1 sz.toNat (by rcases hs with e | e | e <;> omega)
  unfold fVal fSpan
  rcases hs with rfl | rfl | rfl
  · simp only [show (1 : Int).toNat = 1 from rfl] at q ⊢
    constructor
    · intro hk; rw [if_neg (fun z => hk z.1)]; simp; omega
    · simp; split <;> omega
  · simp only [show (2 : Int).toNat = 2 from rfl] at q ⊢
    constructor
    · intro hk; rw [if_neg (fun z => hk z.1)]; simp; omega
    · simp; split <;> omega
  · simp only [show (4 : Int).toNat = 4 from rfl] at q ⊢
    constructor
    · intro hk; rw [if_neg (fun z => hk z.1)]; simp; omega
    · simp; split <;> omega
/-- byte i of a number -/
def byteN (v : Int) (i : Int) : Int := (v / 256 ^ i.toNat) % 256
theorem byte_x {v i : Int} (hv : zIL v) (h0 : 0 ≤ i) (h1 : i < 4) : w32 (zandL (zshr v (8 * i)) 255) = byteN v i := by
  have key : ∀ x : Int, zIL x → w32 (zandL x 255) = x % 256 := fun x hx => by
    rw [zandL_255 hx, w32_of ⟨by omega, by omega⟩]
  have g1 := hv.1
  have g2 := hv.2
  unfold byteN
  rcases (show i = 0 ∨ i = 1 ∨ i = 2 ∨ i = 3 by omega) with rfl | rfl | rfl | rfl
  · rw [show (8 : Int) * 0 = 0 from rfl, zshr_0 hv, key v hv]; simp
  · rw [show (8 : Int) * 1 = 8 from rfl, zshr_8 hv, key _ ⟨by omega, by omega⟩]; rfl
  · rw [show (8 : Int) * 2 = 16 from rfl, zshr_16 hv, key _ ⟨by omega, by omega⟩]; rfl
  · rw [show (8 : Int) * 3 = 24 from rfl, zshr_24 hv, key _ ⟨by omega, by omega⟩]; rfl
/-- where byte i of a field's number stands -/
def wrP (s sz lit i : Int) : Int := if lit = 0 then s + (sz - 1 - i) else s + i
section RW
variable {G : zG} {d : Nat} {Q : Option zV → zHp → Prop} {a f : Nat} {h : zHp}
/-- a field that lies in a row -/
def fIn (h : zHp) (a f : Nat) : Prop := fSz (gI h f 1) ∧ 0 ≤ gI h f 0 ∧ gI h f 0 + gI h f 1 ≤ gI h a 1
theorem sp_X0_read (hT : zT 369 a = (100, 2)) (hTf : zT 369 f = (103, 8)) (hS : zSh h) (hz : rOk h a) (hb : byOk (gI h (a + 1)) (gI h a 1)) (hf : fIn h a f) (k : ∀ r, r = fVal (gI h (a + 1)) (gI h f 0) (gI h f 1) (gI h f 2) (gI h f 3) → Q (some (vL r)) h) : wpN G d M_X0_read 0 (zar 0 [vR a, vR f]) [] h Q := by
  obtain ⟨f1, f2, f3⟩ := hf
  obtain ⟨z1, z2⟩ := hz
  have z3 := zlen_le (a + 1)
  have hs4 : gI h f 1 ≤ 4 := by rcases f1 with e | e | e <;> omega
  have hs0 : 1 ≤ gI h f 1 := by rcases f1 with e | e | e <;> omega
  have loop : ∀ (n j : Nat), j + n = (gI h f 1).toNat → wpN G d M_X0_read 30 [(0, vR a), (1, vR f), (2, vL (rdA (gI h (a + 1)) (gI h f 0) (gI h f 1) (gI h f 3) j)), (4, vI (j : Int))] [] h Q := by
    intro n
    induction n with
    | zero =>
      intro j hj
      have ej : j = (gI h f 1).toNat := by omega
      have bd := rdA_bd (lit := gI h f 3) hb f2 f3 j (by omega)
      have bp : (256 : Int) ^ j ≤ 4294967296 := by
        rcases (show j = 1 ∨ j = 2 ∨ j = 4 by rcases f1 with e | e | e <;> omega) with rfl | rfl | rfl <;> decide
      have sp : zshl 1 (8 * gI h f 1) = fSpan (gI h f 1) := by
        unfold fSpan
        rcases f1 with e | e | e <;> rw [e]
        · exact zshl_8
        · exact zshl_16
        · exact zshl_32
      have spv : fSpan (gI h f 1) = 256 ∨ fSpan (gI h f 1) = 65536 ∨ fSpan (gI h f 1) = 4294967296 := by
        unfold fSpan
        rcases f1 with e | e | e <;> rw [e] <;> simp
      have hdiv : (fSpan (gI h f 1)).tdiv 2 = fSpan (gI h f 1) / 2 := Int.tdiv_eq_ediv_of_nonneg (by omega)
      refine vc_X0_read_30 a hT f hTf _ j h hS (Nat.zero_le _) (fun _ _ _ _ _ => False) (fun _ _ _ _ _ q => q.elim) ⟨fun c => ⟨by omega, fun x2 e2 => ⟨fun c2 => k _ ?_, fun c2 => ⟨fun c3 => k _ ?_, fun c3 => ⟨by rw [e2, sp] at *; omega, k _ ?_⟩⟩⟩⟩, fun c => by omega⟩
      · unfold fVal; rw [if_neg (fun z => c2 z.1), ej]
      · rw [e2, sp, hdiv, ej] at c3
        unfold fVal; rw [if_neg (by omega), ej]
      · rw [e2, sp, hdiv, ej] at c3
        unfold fVal; rw [if_pos ⟨c2, c3⟩, ej, e2, sp]
    | succ n ih =>
      intro j hj
      have bd := rdA_bd (lit := gI h f 3) hb f2 f3 j (by omega)
      have bd1 := rdA_bd (lit := gI h f 3) hb f2 f3 (j + 1) (by omega)
      have bp : (256 : Int) ^ j ≤ 16777216 := by
        rcases (show j = 0 ∨ j = 1 ∨ j = 2 ∨ j = 3 by omega) with rfl | rfl | rfl | rfl <;> decide
      have go : ∀ (x : Int), x = rdA (gI h (a + 1)) (gI h f 0) (gI h f 1) (gI h f 3) (j + 1) → True := fun _ _ => trivial
      refine vc_X0_read_30 a hT f hTf _ j h hS (Nat.zero_le _) (fun y0 y1 y2 y4 h' => y0 = a ∧ y1 = f ∧ y2 = rdA (gI h (a + 1)) (gI h f 0) (gI h f 1) (gI h f 3) (j + 1) ∧ y4 = ((j + 1 : Nat) : Int) ∧ h' = h) ?_ ⟨fun c => by omega, fun c => ⟨fun c0 => ?_, fun c0 => ?_⟩⟩
      · rintro _ _ _ _ _ ⟨e0, e1, e2, e3, e4⟩
        rw [e0, e1, e2, e3, e4]
        exact ih (j + 1) (by omega)
      · have e : rdA (gI h (a + 1)) (gI h f 0) (gI h f 1) (gI h f 3) (j + 1) = 256 * rdA (gI h (a + 1)) (gI h f 0) (gI h f 1) (gI h f 3) j + gI h (a + 1) (gI h f 0 + j).toNat := by rw [rdA, if_pos c0]
        have q := hb (gI h f 0 + j).toNat (by omega)
        exact ⟨by omega, by omega, ⟨by omega, by omega⟩, by omega, fun x7 e7 => ⟨by omega, fun x9 e9 _ => ⟨rfl, rfl, by rw [e7, e], by omega, rfl⟩⟩⟩
      · have e : rdA (gI h (a + 1)) (gI h f 0) (gI h f 1) (gI h f 3) (j + 1) = 256 * rdA (gI h (a + 1)) (gI h f 0) (gI h f 1) (gI h f 3) j + gI h (a + 1) (gI h f 0 + (gI h f 1 - 1 - j)).toNat := by rw [rdA, if_neg c0]
        have q := hb (gI h f 0 + (gI h f 1 - 1 - j)).toNat (by omega)
        refine ⟨by omega, by omega, fun x11 e11 => ?_⟩
        rw [e11]
        exact ⟨by omega, by omega, ⟨by omega, by omega⟩, by omega, fun x7 e7 => ⟨by omega, fun x9 e9 _ => ⟨rfl, rfl, by rw [e7, e], by omega, rfl⟩⟩⟩
  refine vc_X0_read_0 a hT f hTf h hS (Nat.zero_le _) (fun y0 y1 y2 y4 h' => y0 = a ∧ y1 = f ∧ y2 = 0 ∧ y4 = 0 ∧ h' = h) ?_ ⟨fun c => by omega, fun _ => ⟨by omega, fun _ _ => ⟨rfl, rfl, rfl, rfl, rfl⟩, fun c => by omega⟩⟩
  rintro _ _ _ _ _ ⟨e0, e1, e2, e3, e4⟩
  rw [e0, e1, e2, e3, e4]
  exact loop (gI h f 1).toNat 0 (by omega)
/-- the first k bytes of a number written into a field's places -/
def rWr (h : zHp) (a : Nat) (s sz lit v : Int) : Nat → zHp
  | 0 => h
  | k + 1 => rPut (rWr h a s sz lit v k) a (wrP s sz lit k) (byteN v k)
theorem rWr_ne {h : zHp} {a c j : Nat} {s sz lit v : Int} (hc : c ≠ a + 1) : ∀ k, gI (rWr h a s sz lit v k) c j = gI h c j
  | 0 => rfl
  | k + 1 => by rw [rWr, rPut_ne hc, rWr_ne hc k]
theorem rWr_Sh {h : zHp} {a : Nat} {s sz lit v : Int} (hS : zSh h) : ∀ k, zSh (rWr h a s sz lit v k)
  | 0 => hS
  | k + 1 => rPut_Sh (rWr_Sh hS k)
theorem sp_X0_write {v : Int} (hd : 1 ≤ d) (hT : zT 369 a = (100, 2)) (hTf : zT 369 f = (103, 8)) (hS : zSh h) (hz : rOk h a) (hf : fIn h a f) (hv : zIL v) (k : Q none (rWr h a (gI h f 0) (gI h f 1) (gI h f 3) v (gI h f 1).toNat)) : wpN G d M_X0_write 0 (zar 0 [vR a, vR f, vL v]) [] h Q := by
  obtain ⟨f1, f2, f3⟩ := hf
  obtain ⟨z1, z2⟩ := hz
  have z3 := zlen_le (a + 1)
  have hs4 : gI h f 1 ≤ 4 := by rcases f1 with e | e | e <;> omega
  have hs0 : 1 ≤ gI h f 1 := by rcases f1 with e | e | e <;> omega
  have hfa : f ≠ a + 1 := by
    intro e
    have q := zrow1 hT
    rw [← e, hTf] at q
    exact absurd (congrArg Prod.fst q) (by simp)
  have loop : ∀ (n j : Nat), j + n = (gI h f 1).toNat → wpN G d M_X0_write 3 [(0, vR a), (1, vR f), (2, vL v), (4, vI (j : Int))] [] (rWr h a (gI h f 0) (gI h f 1) (gI h f 3) v j) Q := by
    intro n
    induction n with
    | zero =>
      intro j hj
      have ej : j = (gI h f 1).toNat := by omega
      refine vc_X0_write_3 a hT f hTf v j _ (rWr_Sh hS j) hd (fun _ _ _ _ _ => False) (fun _ _ _ _ _ q => q.elim) ⟨fun c => by rw [ej]; exact k, fun c => by rw [rWr_ne hfa] at c; omega⟩
    | succ n ih =>
      intro j hj
      refine vc_X0_write_3 a hT f hTf v j _ (rWr_Sh hS j) hd (fun y0 y1 y2 y4 h' => y0 = a ∧ y1 = f ∧ y2 = v ∧ y4 = ((j + 1 : Nat) : Int) ∧ h' = rWr h a (gI h f 0) (gI h f 1) (gI h f 3) v (j + 1)) ?_ ?_
      · rintro _ _ _ _ _ ⟨e0, e1, e2, e3, e4⟩
        rw [e0, e1, e2, e3, e4]
        exact ih (j + 1) (by omega)
      · rw [rWr_ne hfa, rWr_ne hfa, rWr_ne hfa, byte_x hv (by omega) (by omega)]
        refine ⟨fun c => by omega, fun c => ⟨fun c0 => ⟨by omega, by omega, fun x3 e3 => ⟨by omega, by omega, ?_⟩⟩, fun c0 => ⟨by omega, by omega, ?_⟩⟩⟩
        · refine sp_X0_put hT (rWr_Sh hS j) (by rw [rWr_ne (by omega)]; exact z2) (fun h' e' => qV_i ⟨by rw [e']; exact rPut_Sh (rWr_Sh hS j), by omega, fun x ex _ => ⟨rfl, rfl, rfl, by omega, ?_⟩⟩)
          rw [e', rWr, e3, wrP, if_pos c0]
        · refine sp_X0_put hT (rWr_Sh hS j) (by rw [rWr_ne (by omega)]; exact z2) (fun h' e' => qV_i ⟨by rw [e']; exact rPut_Sh (rWr_Sh hS j), by omega, fun x ex _ => ⟨rfl, rfl, rfl, by omega, ?_⟩⟩)
          rw [e', rWr, wrP, if_neg c0]
  refine vc_X0_write_0 a hT f hTf v h hS hd (fun y0 y1 y2 y4 h' => y0 = a ∧ y1 = f ∧ y2 = v ∧ y4 = 0 ∧ h' = h) ?_ (fun _ => ⟨rfl, rfl, rfl, rfl, rfl⟩)
  rintro _ _ _ _ _ ⟨e0, e1, e2, e3, e4⟩
  rw [e0, e1, e2, e3, e4]
  exact loop (gI h f 1).toNat 0 (by omega)
end RW
