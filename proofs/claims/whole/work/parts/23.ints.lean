/-! INTEGERS: an int of the small machine is J of an integer; reads and writes of cells over integers. -/
def J (i : Int) : Int32 := Int32.ofInt i
theorem J_toInt (x : Int32) : J x.toInt = x := Int32.ofInt_toInt x
theorem toInt_J {i : Int} (h : -2147483648 ≤ i ∧ i < 2147483648) : (J i).toInt = i := Int32.toInt_ofInt_of_le (by omega) (by omega)
theorem rg_toInt (x : Int32) : -2147483648 ≤ x.toInt ∧ x.toInt < 2147483648 := by
  have a := Int32.le_toInt x
  have b := Int32.toInt_lt x
  omega
theorem J_add (a b : Int) : J a + J b = J (a + b) := (Int32.ofInt_add a b).symm
theorem J_sub (a b : Int) : J a - J b = J (a - b) := (Int32.ofInt_sub a b).symm
theorem J_mul (a b : Int) : J a * J b = J (a * b) := (Int32.ofInt_mul a b).symm
theorem J_neg (a : Int) : - J a = J (- a) := (Int32.ofInt_neg a).symm
def iand (a b : Int) : Int := (J a &&& J b).toInt
def ior (a b : Int) : Int := (J a ||| J b).toInt
def ixr (a b : Int) : Int := (J a ^^^ J b).toInt
def shl (a b : Int) : Int := (J a <<< J b).toInt
def shr (a b : Int) : Int := (J a >>> J b).toInt
def idv (a b : Int) : Int := (J a / J b).toInt
def i2b (a : Int) : Int := (Int32.toInt8 (J a)).toInt32.toInt
def i2l (a : Int) : Int64 := Int32.toInt64 (J a)
def l2i (x : Int64) : Int := (Int64.toInt32 x).toInt
def lcm (x y : Int64) : Int := (lg_cmp x y).toInt
def imx (a b : Int) : Int := (if J a < J b then J b else J a).toInt
def imn (a b : Int) : Int := (if J b < J a then J b else J a).toInt
def nab (a : Int) : Int := (vp_nar .byte (J a)).toInt
def nao (a : Int) : Int := (vp_nar .boolean (J a)).toInt
theorem J_and (a b : Int) : J a &&& J b = J (iand a b) := (J_toInt _).symm
theorem J_or (a b : Int) : J a ||| J b = J (ior a b) := (J_toInt _).symm
theorem J_xor (a b : Int) : J a ^^^ J b = J (ixr a b) := (J_toInt _).symm
theorem J_shl (a b : Int) : J a <<< J b = J (shl a b) := (J_toInt _).symm
theorem J_shr (a b : Int) : J a >>> J b = J (shr a b) := (J_toInt _).symm
theorem J_div (a b : Int) : J a / J b = J (idv a b) := (J_toInt _).symm
theorem J_i2b (a : Int) : (Int32.toInt8 (J a)).toInt32 = J (i2b a) := (J_toInt _).symm
theorem J_i2l (a : Int) : Int32.toInt64 (J a) = i2l a := rfl
theorem J_l2i (x : Int64) : Int64.toInt32 x = J (l2i x) := (J_toInt _).symm
theorem J_lcm (x y : Int64) : lg_cmp x y = J (lcm x y) := (J_toInt _).symm
theorem J_max (a b : Int) : (if J a < J b then J b else J a) = J (imx a b) := (J_toInt _).symm
theorem J_min (a b : Int) : (if J b < J a then J b else J a) = J (imn a b) := (J_toInt _).symm
theorem J_nab (a : Int) : vp_nar .byte (J a) = J (nab a) := (J_toInt _).symm
theorem J_nao (a : Int) : vp_nar .boolean (J a) = J (nao a) := (J_toInt _).symm
theorem J_nI (n : Nat) : nI n = J (n : Int) := (Int32.ofInt_eq_ofNat).symm
theorem Jeq {a b : Int} (ha : -2147483648 ≤ a ∧ a < 2147483648) (hb : -2147483648 ≤ b ∧ b < 2147483648) : J a = J b ↔ a = b :=
  ⟨fun e => by rw [← toInt_J ha, ← toInt_J hb, e], fun e => by rw [e]⟩
theorem Jlt {a b : Int} (ha : -2147483648 ≤ a ∧ a < 2147483648) (hb : -2147483648 ≤ b ∧ b < 2147483648) : J a < J b ↔ a < b := by
  rw [Int32.lt_iff_toInt_lt, toInt_J ha, toInt_J hb]
theorem Jle {a b : Int} (ha : -2147483648 ≤ a ∧ a < 2147483648) (hb : -2147483648 ≤ b ∧ b < 2147483648) : J a ≤ J b ↔ a ≤ b := by
  rw [Int32.le_iff_toInt_le, toInt_J ha, toInt_J hb]
/-- a place of an array, by an integer -/
abbrev tn (e : Int) : Nat := Int32.toNatClampNeg (J e)
theorem tn_eq {e : Int} (h : -2147483648 ≤ e ∧ e < 2147483648) : tn e = e.toNat := Int32.toNatClampNeg_ofInt_of_le (by omega) (by omega)
theorem tn_inj {e k : Int} (h : 0 ≤ e ∧ e < 2147483648) (h' : 0 ≤ k ∧ k < 2147483648) (hk : tn k = tn e) : k = e := by
  rw [tn_eq ⟨by omega, h.2⟩, tn_eq ⟨by omega, h'.2⟩] at hk; omega
theorem tn_lt {e : Int} {n : Nat} (h : 0 ≤ e ∧ e < (n : Int)) (hn : n ≤ 2147483648) : tn e < n := by
  rw [tn_eq ⟨by omega, by omega⟩]; omega
theorem ixs {h : AH} {q t n : Nat} {i : Int} (e : hs h q = (t, n)) (c : 0 ≤ i ∧ i < (n : Int)) (b : n ≤ 2147483648) : ix (J i) (hs h q).2 := by
  rw [e]
  intro o
  rcases o with o | o
  · rw [show (0 : Int32) = J 0 from rfl, Jlt ⟨by omega, by omega⟩ ⟨by omega, by omega⟩] at o; omega
  · have := tn_lt c b; exact absurd this (Nat.not_lt.mpr o)
theorem ixn {n : Nat} {i : Int} (c : 0 ≤ i ∧ i < (n : Int)) (b : n ≤ 2147483648) : ix (J i) n := by
  intro o
  rcases o with o | o
  · rw [show (0 : Int32) = J 0 from rfl, Jlt ⟨by omega, by omega⟩ ⟨by omega, by omega⟩] at o; omega
  · have := tn_lt c b; exact absurd this (Nat.not_lt.mpr o)
/-- reads: an array's element, a field -/
def aI (h : AH) (c : Nat) (e : Int) : Int := (hI h c (tn e)).toInt
def hF (h : AH) (c k : Nat) : Int32 := hI h c k
def fI (h : AH) (c k : Nat) : Int := (hI h c k).toInt
def aL (h : AH) (c : Nat) (e : Int) : Int64 := hL h c (tn e)
theorem rdA (h : AH) (c : Nat) (e : Int) : hI h c (Int32.toNatClampNeg (J e)) = J (aI h c e) := (J_toInt _).symm
theorem rdF (h : AH) (c k : Nat) : hF h c k = J (fI h c k) := (J_toInt _).symm
theorem rdL (h : AH) (c : Nat) (e : Int) : hL h c (Int32.toNatClampNeg (J e)) = aL h c e := rfl
theorem aI_rg (h : AH) (c : Nat) (e : Int) : -2147483648 ≤ aI h c e ∧ aI h c e < 2147483648 := rg_toInt _
theorem fI_rg (h : AH) (c k : Nat) : -2147483648 ≤ fI h c k ∧ fI h c k < 2147483648 := rg_toInt _
/-- writes -/
def wA (h : AH) (c : Nat) (e v : Int) : AH := wI h c (tn e) (J v)
def wG (h : AH) (c k : Nat) (x : Int32) : AH := wI h c k x
def wF (h : AH) (c k : Nat) (v : Int) : AH := wI h c k (J v)
def wAL (h : AH) (c : Nat) (e : Int) (v : Int64) : AH := wL h c (tn e) v
def wCp (h : AH) (a : Nat) (sp : Int) (b : Nat) (dp n : Int) : AH := wC h a (tn sp) b (tn dp) (tn n)
theorem wA_fold (h : AH) (c : Nat) (e v : Int) : wI h c (Int32.toNatClampNeg (J e)) (J v) = wA h c e v := rfl
theorem wF_fold (h : AH) (c k : Nat) (v : Int) : wG h c k (J v) = wF h c k v := rfl
theorem wL_fold (h : AH) (c : Nat) (e : Int) (v : Int64) : wL h c (Int32.toNatClampNeg (J e)) v = wAL h c e v := rfl
theorem wC_fold (h : AH) (a : Nat) (sp : Int) (b : Nat) (dp n : Int) : wC h a (Int32.toNatClampNeg (J sp)) b (Int32.toNatClampNeg (J dp)) (Int32.toNatClampNeg (J n)) = wCp h a sp b dp n := rfl
/-- an array with one element changed -/
def uu_ (U : Int → Int) (e v : Int) : Int → Int := fun k => if tn k = tn e then v else U k
theorem uu_eq (U : Int → Int) (e v : Int) : uu_ U e v e = v := if_pos rfl
theorem uu_ne {U : Int → Int} {e v k : Int} (h : 0 ≤ e ∧ e < 2147483648) (h' : 0 ≤ k ∧ k < 2147483648) (n : ¬ k = e) : uu_ U e v k = U k :=
  if_neg fun q => n (tn_inj h h' q)
theorem va_up_same {α : Type} (f : Nat → α) (k : Nat) (v : α) : va_up f k v k = v := if_pos rfl
theorem va_up_other {α : Type} (f : Nat → α) {k j : Nat} (v : α) (n : ¬ j = k) : va_up f k v j = f j := if_neg n
theorem hI_wI_ne {h : AH} {c j c' : Nat} {x : Int32} (n : ¬ c' = c) : hI (wI h c j x) c' = hI h c' := va_up_other _ _ n
theorem hI_wI_eq {h : AH} {c j : Nat} {x : Int32} : hI (wI h c j x) c = va_up (hI h c) j x := va_up_same _ _ _
theorem aI_wA {h : AH} {c : Nat} {e v : Int} (g : -2147483648 ≤ v ∧ v < 2147483648) : aI (wA h c e v) c = uu_ (aI h c) e v := by
  funext k
  unfold aI wA uu_
  rw [hI_wI_eq]
  by_cases q : tn k = tn e
  · rw [if_pos q, q, va_up_same]; exact toInt_J g
  · rw [if_neg q, va_up_other _ _ q]
theorem aI_wA_ne {h : AH} {c c' : Nat} {e v : Int} (n : ¬ c' = c) : aI (wA h c e v) c' = aI h c' := by
  funext k; unfold aI wA; rw [hI_wI_ne n]
theorem aI_wF_ne {h : AH} {c c' k : Nat} {v : Int} (n : ¬ c' = c) : aI (wF h c k v) c' = aI h c' := by
  funext k; unfold aI wF; rw [hI_wI_ne n]
theorem fI_wA_ne {h : AH} {c c' : Nat} {e v : Int} (n : ¬ c' = c) : fI (wA h c e v) c' = fI h c' := by
  funext k; unfold fI wA; rw [hI_wI_ne n]
theorem fI_wF_ne {h : AH} {c c' k : Nat} {v : Int} (n : ¬ c' = c) : fI (wF h c k v) c' = fI h c' := by
  funext k; unfold fI wF; rw [hI_wI_ne n]
theorem fI_wF_eq {h : AH} {c k : Nat} {v : Int} (g : -2147483648 ≤ v ∧ v < 2147483648) : fI (wF h c k v) c k = v := by
  unfold fI wF; rw [hI_wI_eq, va_up_same]; exact toInt_J g
theorem fI_wF_nk {h : AH} {c k j : Nat} {v : Int} (n : ¬ j = k) : fI (wF h c k v) c j = fI h c j := by
  unfold fI wF; rw [hI_wI_eq, va_up_other _ _ n]
theorem aL_wA {h : AH} {c c' : Nat} {e v : Int} : aL (wA h c e v) c' = aL h c' := rfl
theorem aL_wF {h : AH} {c c' k : Nat} {v : Int} : aL (wF h c k v) c' = aL h c' := rfl
theorem aI_wAL {h : AH} {c c' : Nat} {e : Int} {v : Int64} : aI (wAL h c e v) c' = aI h c' := rfl
theorem fI_wAL {h : AH} {c c' : Nat} {e : Int} {v : Int64} : fI (wAL h c e v) c' = fI h c' := rfl
theorem aL_wAL_ne {h : AH} {c c' : Nat} {e : Int} {v : Int64} (n : ¬ c' = c) : aL (wAL h c e v) c' = aL h c' := by
  funext k
  show va_up (hL h) c _ c' (tn k) = hL h c' (tn k)
  rw [va_up_other _ _ n]
def uuL (U : Int → Int64) (e : Int) (v : Int64) : Int → Int64 := fun k => if tn k = tn e then v else U k
theorem aL_wAL {h : AH} {c : Nat} {e : Int} {v : Int64} : aL (wAL h c e v) c = uuL (aL h c) e v := by
  funext k
  show va_up (hL h) c _ c (tn k) = _
  rw [va_up_same]
  rfl
theorem uuL_eq (U : Int → Int64) (e : Int) (v : Int64) : uuL U e v e = v := if_pos rfl
theorem uuL_ne {U : Int → Int64} {e k : Int} {v : Int64} (h : 0 ≤ e ∧ e < 2147483648) (h' : 0 ≤ k ∧ k < 2147483648) (n : ¬ k = e) : uuL U e v k = U k :=
  if_neg fun q => n (tn_inj h h' q)
/-- same cells, same references -/
def SH (h h' : AH) : Prop := h'.1 = h.1 ∧ hR h' = hR h
theorem SH.rf {h : AH} : SH h h := ⟨rfl, rfl⟩
theorem SH.tr {a b c : AH} (x : SH a b) (y : SH b c) : SH a c := ⟨y.1.trans x.1, y.2.trans x.2⟩
theorem SH.hs {a b : AH} (x : SH a b) : hs b = hs a := congrArg (fun t => t.2.2) x.1
theorem SH.hn {a b : AH} (x : SH a b) : hn b = hn a := congrArg (fun t => t.1) x.1
theorem SH.hz {a b : AH} (x : SH a b) : hz b = hz a := congrArg (fun t => t.2.1) x.1
theorem SH.wA {h h' : AH} {c : Nat} {e v : Int} (x : SH h h') : SH h (wA h' c e v) := x
theorem SH.wF {h h' : AH} {c k : Nat} {v : Int} (x : SH h h') : SH h (wF h' c k v) := x
theorem SH.wAL {h h' : AH} {c : Nat} {e : Int} {v : Int64} (x : SH h h') : SH h (wAL h' c e v) := x
theorem SH.wC {h h' : AH} {a sp b dp n : Nat} (x : SH h h') : SH h (wC h' a sp b dp n) := x
/-- truth as 1 and 0 -/
noncomputable def bI (P : Prop) : Int := @ite Int P (Classical.propDecidable P) 1 0
theorem bI_pos {P : Prop} (h : P) : bI P = 1 := by unfold bI; exact if_pos h
theorem bI_neg {P : Prop} (h : ¬ P) : bI P = 0 := by unfold bI; exact if_neg h
theorem bI_or (P : Prop) : bI P = 0 ∨ bI P = 1 := by
  by_cases h : P
  · exact Or.inr (bI_pos h)
  · exact Or.inl (bI_neg h)
theorem bI_rg (P : Prop) : -2147483648 ≤ bI P ∧ bI P < 2147483648 := by
  rcases bI_or P with h | h <;> rw [h] <;> decide
theorem bI0 (P : Prop) : J (bI P) = J 0 ↔ ¬ P := by
  by_cases h : P
  · rw [bI_pos h]; exact ⟨fun e => absurd e (by decide), fun n => absurd h n⟩
  · rw [bI_neg h]; exact ⟨fun _ => h, fun _ => rfl⟩
theorem bI1 (P : Prop) : J (bI P) = J 1 ↔ P := by
  by_cases h : P
  · rw [bI_pos h]; exact ⟨fun _ => h, fun _ => rfl⟩
  · rw [bI_neg h]; exact ⟨fun e => absurd e (by decide), fun n => absurd n h⟩
theorem bI_01 (P : Prop) : J (bI P) = J 0 ∨ J (bI P) = J 1 := by
  rcases bI_or P with h | h <;> rw [h]
  · exact Or.inl rfl
  · exact Or.inr rfl
theorem bI_iff {P R : Prop} (h : P ↔ R) : bI P = bI R := by rw [propext h]
theorem J_sameA (h : AH) (c : Nat) (e v : Int) : J (aI (wA h c e v) c e) = J v := by
  unfold aI wA; rw [hI_wI_eq, va_up_same, J_toInt]
theorem J_sameF (h : AH) (c k : Nat) (v : Int) : J (fI (wF h c k v) c k) = J v := by
  unfold fI wF; rw [hI_wI_eq, va_up_same, J_toInt]
theorem aL_same (h : AH) (c : Nat) (e : Int) (v : Int64) : aL (wAL h c e v) c e = v := by
  rw [aL_wAL, uuL_eq]
theorem same_aI {v : Int} (g : -2147483648 ≤ v ∧ v < 2147483648) (h : AH) (c : Nat) (e : Int) : aI (wA h c e v) c e = v := by
  rw [aI_wA g, uu_eq]
theorem cpo {h : AH} {q t n m : Nat} (e : hs h q = (t, n)) (c : m ≤ n) : m ≤ (hs h q).2 := by rw [e]; exact c
