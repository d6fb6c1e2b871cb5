def pn_4 (f : Nat → Int32) (b : Nat) (m : Nat → Int32) : Nat → Int32 := upd (upd (upd (upd f (b + 0) (m 0)) (b + 1) (m 1)) (b + 2) (m 2)) (b + 3) (m 3)
theorem pn_4_0 (f : Nat → Int32) (b : Nat) (m : Nat → Int32) : pn_4 f b m (b + 0) = m 0 := by
  unfold pn_4
  rw [pn_ne _ _ (by omega), pn_ne _ _ (by omega), pn_ne _ _ (by omega), pn_at]
theorem pn_4_1 (f : Nat → Int32) (b : Nat) (m : Nat → Int32) : pn_4 f b m (b + 1) = m 1 := by
  unfold pn_4
  rw [pn_ne _ _ (by omega), pn_ne _ _ (by omega), pn_at]
theorem pn_4_2 (f : Nat → Int32) (b : Nat) (m : Nat → Int32) : pn_4 f b m (b + 2) = m 2 := by
  unfold pn_4
  rw [pn_ne _ _ (by omega), pn_at]
theorem pn_4_3 (f : Nat → Int32) (b : Nat) (m : Nat → Int32) : pn_4 f b m (b + 3) = m 3 := by
  unfold pn_4
  rw [pn_at]
theorem pn_4_p {R : Int32 → Prop} {f : Nat → Int32} {b : Nat} {m : Nat → Int32} (hm : ∀ k, k < 4 → R (m k)) {j : Nat} (hf : R (f j)) : R (pn_4 f b m j) := by
  unfold pn_4
  by_cases h3 : j = b + 3
  · rw [h3, pn_at]; exact hm 3 (by decide)
  · rw [pn_ne _ _ h3]
    by_cases h2 : j = b + 2
    · rw [h2, pn_at]; exact hm 2 (by decide)
    · rw [pn_ne _ _ h2]
      by_cases h1 : j = b + 1
      · rw [h1, pn_at]; exact hm 1 (by decide)
      · rw [pn_ne _ _ h1]
        by_cases h0 : j = b + 0
        · rw [h0, pn_at]; exact hm 0 (by decide)
        · rw [pn_ne _ _ h0]; exact hf
def pn_7 (f : Nat → Int32) (b : Nat) (m : Nat → Int32) : Nat → Int32 := upd (upd (upd (upd (upd (upd (upd f (b + 0) (m 0)) (b + 1) (m 1)) (b + 2) (m 2)) (b + 3) (m 3)) (b + 4) (m 4)) (b + 5) (m 5)) (b + 6) (m 6)
def pn_l7 (f : Nat → Int32) (m : Nat → Int32) : Nat → Int32 := upd (upd (upd (upd (upd (upd (upd f 0 (m 0)) 1 (m 1)) 2 (m 2)) 3 (m 3)) 4 (m 4)) 5 (m 5)) 6 (m 6)
theorem pn_l7_at (f m : Nat → Int32) {k : Nat} (hk : k < 7) : pn_l7 f m k = m k := by
  have h : k = 0 ∨ k = 1 ∨ k = 2 ∨ k = 3 ∨ k = 4 ∨ k = 5 ∨ k = 6 := by omega
  rcases h with rfl | rfl | rfl | rfl | rfl | rfl | rfl <;> rfl
def pn_m (c i d x0 x1 x2 x3 : Int32) : Nat → Int32 := fun f => match f with | 0 => c | 1 => i | 2 => d | 3 => x0 | 4 => x1 | 5 => x2 | _ => x3
def pn_aw (w q : Nat → Int32) (d : Nat) (c i dt x0 x1 x2 x3 : Int32) : Nat → Int32 := if q d < 8 then pn_7 w (d * 56 + (q d).toNatClampNeg * 7) (pn_m c i dt x0 x1 x2 x3) else w
def pn_aq (q : Nat → Int32) (d : Nat) : Nat → Int32 := if q d < 8 then upd q d (q d + 1) else q
theorem pn_aw_lt {w q : Nat → Int32} {d s : Nat} {c i dt x0 x1 x2 x3 : Int32} (hs : q d = nI s) (h8 : s < 8) : pn_aw w q d c i dt x0 x1 x2 x3 = pn_7 w (d * 56 + s * 7) (pn_m c i dt x0 x1 x2 x3) := by
  unfold pn_aw
  rw [hs, if_pos (show nI s < 8 from nI_lt (b := 8) h8 (by decide)), nI_clamp (by omega)]
theorem pn_aq_lt {q : Nat → Int32} {d s : Nat} (hs : q d = nI s) (h8 : s < 8) : pn_aq q d = upd q d (q d + 1) := by
  unfold pn_aq
  rw [if_pos (by rw [hs]; exact nI_lt (b := 8) h8 (by decide))]
theorem pn_n8 {s : Nat} (h8 : ¬ s < 8) (hs8 : s ≤ 8) : ¬ nI s < 8 := nI_nlt (b := 8) (by omega) (by omega)
theorem pn_aw_ge {w q : Nat → Int32} {d s : Nat} {c i dt x0 x1 x2 x3 : Int32} (hs : q d = nI s) (h8 : ¬ s < 8) (hs8 : s ≤ 8) : pn_aw w q d c i dt x0 x1 x2 x3 = w := by
  unfold pn_aw
  rw [hs, if_neg (pn_n8 h8 hs8)]
theorem pn_aq_ge {q : Nat → Int32} {d s : Nat} (hs : q d = nI s) (h8 : ¬ s < 8) (hs8 : s ≤ 8) : pn_aq q d = q := by
  unfold pn_aq
  rw [hs, if_neg (pn_n8 h8 hs8)]
def pn_sp (rs : Nat → Int32) (p : Nat) : Nat → Int32 := if rs p ≤ 0 then rs else upd rs p (rs p - 1)
def pn_hi (hi : Nat → Int32) (p : Nat) : Nat → Int32 := fun k => hi (p * 4 + k)
def pn_in (lo hi : Nat → Int32) (p : Nat) : Nat → Int32 := fun k => if hi (p * 4 + k) < lo (p * 4 + k) then 0 else 1
def pn_g (ic wa : Nat → Int32) (p : Nat) : Nat → Int32 := fun k => if ic (p * 4 + k) = 0 then -1 else wa (p * 4 + k)
def pn_cl (v l g : Int32) : Int32 := if l ≤ v then (if v ≤ g then v else g) else l
def pn_aW (c : Int32) (m lo hi wa : Nat → Int32) (p : Nat) : Nat → Int32 := fun k => if m (3 + k) = -1 then wa (p * 4 + k) else if c = 3 then pn_cl (m (3 + k)) (lo (p * 4 + k)) (hi (p * 4 + k)) else wa (p * 4 + k)
def pn_aI (c : Int32) (m ic : Nat → Int32) (p : Nat) : Nat → Int32 := fun k => if m (3 + k) = -1 then ic (p * 4 + k) else if c = 3 then ic (p * 4 + k) else 0
theorem pn_b0 : vp_nar .boolean 0 = 0 := by decide
theorem pn_b1 : vp_nar .boolean 1 = 1 := by decide
def pn_P (P : Int32) (p : Nat) : Prop := (P = 0 ∧ p = 0) ∨ (P = 1 ∧ p = 1)
theorem pp_0 : pn_P 0 0 := Or.inl ⟨rfl, rfl⟩
theorem pp_1 : pn_P 1 1 := Or.inr ⟨rfl, rfl⟩
theorem pp_lt {P : Int32} {p : Nat} (H : pn_P P p) : p < 2 := by
  rcases H with ⟨_, rfl⟩ | ⟨_, rfl⟩ <;> decide
theorem pp_n {P : Int32} {p : Nat} (H : pn_P P p) : P.toNatClampNeg = p := by
  rcases H with ⟨rfl, rfl⟩ | ⟨rfl, rfl⟩ <;> decide
theorem pp_v {P : Int32} {p : Nat} (H : pn_P P p) : vp_in P 2 := by
  rcases H with ⟨rfl, rfl⟩ | ⟨rfl, rfl⟩ <;> exact vp_in_iff.mpr (by decide)
theorem pp_nI {P : Int32} {p : Nat} (H : pn_P P p) : P = nI p := by
  rcases H with ⟨rfl, rfl⟩ | ⟨rfl, rfl⟩ <;> rfl
theorem pp_40 {P : Int32} {p : Nat} (H : pn_P P p) : P * 4 = nI (p * 4) := by
  rcases H with ⟨rfl, rfl⟩ | ⟨rfl, rfl⟩ <;> decide
theorem pp_b0 {P : Int32} {p : Nat} (H : pn_P P p) : (P * 8) * 7 = nI (p * 56) := by
  rcases H with ⟨rfl, rfl⟩ | ⟨rfl, rfl⟩ <;> decide
theorem pp_y0 {P : Int32} {p : Nat} (H : pn_P P p) : P * 56 = nI (p * 56) := by
  rcases H with ⟨rfl, rfl⟩ | ⟨rfl, rfl⟩ <;> decide
theorem pn_mul (a b : Nat) : nI a * nI b = nI (a * b) := (Int32.ofNat_mul a b).symm
theorem pp_b {P : Int32} {p s : Nat} (H : pn_P P p) : ((P * 8) + nI s) * 7 = nI (p * 56 + s * 7) := by
  have e : P * 8 = nI (p * 8) := by rcases H with ⟨rfl, rfl⟩ | ⟨rfl, rfl⟩ <;> decide
  rw [e, nI_add]
  have e2 : nI (p * 8 + s) * 7 = nI ((p * 8 + s) * 7) := pn_mul _ 7
  rw [e2]
  congr 1
  omega
theorem pp_y {P : Int32} {p s : Nat} (H : pn_P P p) : (P * 56) + (nI s * 7) = nI (p * 56 + s * 7) := by
  have e2 : nI s * 7 = nI (s * 7) := pn_mul _ 7
  rw [pp_y0 H, e2, nI_add]
theorem pp_i0 {P : Int32} {p : Nat} (H : pn_P P p) : (P * 13).toNatClampNeg = p * 13 + 0 := by
  rcases H with ⟨rfl, rfl⟩ | ⟨rfl, rfl⟩ <;> decide
theorem pp_vi0 {P : Int32} {p : Nat} (H : pn_P P p) : vp_in (P * 13) 26 := by
  rcases H with ⟨rfl, rfl⟩ | ⟨rfl, rfl⟩ <;> exact vp_in_iff.mpr (by decide)
theorem pp_i1 {P : Int32} {p : Nat} (H : pn_P P p) : ((P * 13) + 1).toNatClampNeg = p * 13 + 1 := by
  rcases H with ⟨rfl, rfl⟩ | ⟨rfl, rfl⟩ <;> decide
theorem pp_vi1 {P : Int32} {p : Nat} (H : pn_P P p) : vp_in ((P * 13) + 1) 26 := by
  rcases H with ⟨rfl, rfl⟩ | ⟨rfl, rfl⟩ <;> exact vp_in_iff.mpr (by decide)
theorem pp_i2 {P : Int32} {p : Nat} (H : pn_P P p) : ((P * 13) + 2).toNatClampNeg = p * 13 + 2 := by
  rcases H with ⟨rfl, rfl⟩ | ⟨rfl, rfl⟩ <;> decide
theorem pp_vi2 {P : Int32} {p : Nat} (H : pn_P P p) : vp_in ((P * 13) + 2) 26 := by
  rcases H with ⟨rfl, rfl⟩ | ⟨rfl, rfl⟩ <;> exact vp_in_iff.mpr (by decide)
theorem pp_i3 {P : Int32} {p : Nat} (H : pn_P P p) : ((P * 13) + 3).toNatClampNeg = p * 13 + 3 := by
  rcases H with ⟨rfl, rfl⟩ | ⟨rfl, rfl⟩ <;> decide
theorem pp_vi3 {P : Int32} {p : Nat} (H : pn_P P p) : vp_in ((P * 13) + 3) 26 := by
  rcases H with ⟨rfl, rfl⟩ | ⟨rfl, rfl⟩ <;> exact vp_in_iff.mpr (by decide)
theorem pp_i4 {P : Int32} {p : Nat} (H : pn_P P p) : ((P * 13) + 4).toNatClampNeg = p * 13 + 4 := by
  rcases H with ⟨rfl, rfl⟩ | ⟨rfl, rfl⟩ <;> decide
theorem pp_vi4 {P : Int32} {p : Nat} (H : pn_P P p) : vp_in ((P * 13) + 4) 26 := by
  rcases H with ⟨rfl, rfl⟩ | ⟨rfl, rfl⟩ <;> exact vp_in_iff.mpr (by decide)
theorem pp_i5 {P : Int32} {p : Nat} (H : pn_P P p) : ((P * 13) + 5).toNatClampNeg = p * 13 + 5 := by
  rcases H with ⟨rfl, rfl⟩ | ⟨rfl, rfl⟩ <;> decide
theorem pp_vi5 {P : Int32} {p : Nat} (H : pn_P P p) : vp_in ((P * 13) + 5) 26 := by
  rcases H with ⟨rfl, rfl⟩ | ⟨rfl, rfl⟩ <;> exact vp_in_iff.mpr (by decide)
theorem pp_i6 {P : Int32} {p : Nat} (H : pn_P P p) : ((P * 13) + 6).toNatClampNeg = p * 13 + 6 := by
  rcases H with ⟨rfl, rfl⟩ | ⟨rfl, rfl⟩ <;> decide
theorem pp_vi6 {P : Int32} {p : Nat} (H : pn_P P p) : vp_in ((P * 13) + 6) 26 := by
  rcases H with ⟨rfl, rfl⟩ | ⟨rfl, rfl⟩ <;> exact vp_in_iff.mpr (by decide)
theorem pp_i7 {P : Int32} {p : Nat} (H : pn_P P p) : ((P * 13) + 7).toNatClampNeg = p * 13 + 7 := by
  rcases H with ⟨rfl, rfl⟩ | ⟨rfl, rfl⟩ <;> decide
theorem pp_vi7 {P : Int32} {p : Nat} (H : pn_P P p) : vp_in ((P * 13) + 7) 26 := by
  rcases H with ⟨rfl, rfl⟩ | ⟨rfl, rfl⟩ <;> exact vp_in_iff.mpr (by decide)
theorem pp_i8 {P : Int32} {p : Nat} (H : pn_P P p) : ((P * 13) + 8).toNatClampNeg = p * 13 + 8 := by
  rcases H with ⟨rfl, rfl⟩ | ⟨rfl, rfl⟩ <;> decide
theorem pp_vi8 {P : Int32} {p : Nat} (H : pn_P P p) : vp_in ((P * 13) + 8) 26 := by
  rcases H with ⟨rfl, rfl⟩ | ⟨rfl, rfl⟩ <;> exact vp_in_iff.mpr (by decide)
theorem pp_i9 {P : Int32} {p : Nat} (H : pn_P P p) : ((P * 13) + 9).toNatClampNeg = p * 13 + 9 := by
  rcases H with ⟨rfl, rfl⟩ | ⟨rfl, rfl⟩ <;> decide
theorem pp_vi9 {P : Int32} {p : Nat} (H : pn_P P p) : vp_in ((P * 13) + 9) 26 := by
  rcases H with ⟨rfl, rfl⟩ | ⟨rfl, rfl⟩ <;> exact vp_in_iff.mpr (by decide)
theorem pp_i10 {P : Int32} {p : Nat} (H : pn_P P p) : ((P * 13) + 10).toNatClampNeg = p * 13 + 10 := by
  rcases H with ⟨rfl, rfl⟩ | ⟨rfl, rfl⟩ <;> decide
theorem pp_vi10 {P : Int32} {p : Nat} (H : pn_P P p) : vp_in ((P * 13) + 10) 26 := by
  rcases H with ⟨rfl, rfl⟩ | ⟨rfl, rfl⟩ <;> exact vp_in_iff.mpr (by decide)
theorem pp_i11 {P : Int32} {p : Nat} (H : pn_P P p) : ((P * 13) + 11).toNatClampNeg = p * 13 + 11 := by
  rcases H with ⟨rfl, rfl⟩ | ⟨rfl, rfl⟩ <;> decide
theorem pp_vi11 {P : Int32} {p : Nat} (H : pn_P P p) : vp_in ((P * 13) + 11) 26 := by
  rcases H with ⟨rfl, rfl⟩ | ⟨rfl, rfl⟩ <;> exact vp_in_iff.mpr (by decide)
theorem pp_i12 {P : Int32} {p : Nat} (H : pn_P P p) : ((P * 13) + 12).toNatClampNeg = p * 13 + 12 := by
  rcases H with ⟨rfl, rfl⟩ | ⟨rfl, rfl⟩ <;> decide
theorem pp_vi12 {P : Int32} {p : Nat} (H : pn_P P p) : vp_in ((P * 13) + 12) 26 := by
  rcases H with ⟨rfl, rfl⟩ | ⟨rfl, rfl⟩ <;> exact vp_in_iff.mpr (by decide)
theorem pp_k4 {k : Nat} (hk : k < 4) : k = 0 ∨ k = 1 ∨ k = 2 ∨ k = 3 := by omega
theorem pp_4 {P : Int32} {p k : Nat} (H : pn_P P p) (hk : k < 4) : ((P * 4) + nI k).toNatClampNeg = p * 4 + k := by
  rw [pp_40 H, nI_add, nI_clamp (by have := pp_lt H; omega)]
theorem pp_v4 {P : Int32} {p k : Nat} (H : pn_P P p) (hk : k < 4) : vp_in ((P * 4) + nI k) 8 := by
  rw [pp_40 H, nI_add]
  exact vp_in_nI (by have := pp_lt H; omega) (by decide)
theorem pp_o {P : Int32} {p k : Nat} (H : pn_P P p) : ((P * 4) + nI k) * 7 = nI ((p * 4 + k) * 7) := by
  rw [pp_40 H, nI_add]
  exact pn_mul _ 7
theorem pp_o0 {P : Int32} {p k : Nat} (H : pn_P P p) (hk : k < 4) : (((P * 4) + nI k) * 7).toNatClampNeg = (p * 4 + k) * 7 + 0 := by
  rw [pp_o H, nI_clamp (by have := pp_lt H; omega)]; rfl
theorem pp_vo0 {P : Int32} {p k : Nat} (H : pn_P P p) (hk : k < 4) : vp_in (((P * 4) + nI k) * 7) 56 := by
  rw [pp_o H]; exact vp_in_nI (by have := pp_lt H; omega) (by decide)
theorem pp_o1 {P : Int32} {p k : Nat} (H : pn_P P p) (hk : k < 4) : ((((P * 4) + nI k) * 7) + 1).toNatClampNeg = (p * 4 + k) * 7 + 1 := by
  rw [pp_o H, show nI ((p * 4 + k) * 7) + 1 = nI ((p * 4 + k) * 7 + 1) from nI_add _ 1, nI_clamp (by have := pp_lt H; omega)]
theorem pp_vo1 {P : Int32} {p k : Nat} (H : pn_P P p) (hk : k < 4) : vp_in ((((P * 4) + nI k) * 7) + 1) 56 := by
  rw [pp_o H, show nI ((p * 4 + k) * 7) + 1 = nI ((p * 4 + k) * 7 + 1) from nI_add _ 1]; exact vp_in_nI (by have := pp_lt H; omega) (by decide)
theorem pp_o2 {P : Int32} {p k : Nat} (H : pn_P P p) (hk : k < 4) : ((((P * 4) + nI k) * 7) + 2).toNatClampNeg = (p * 4 + k) * 7 + 2 := by
  rw [pp_o H, show nI ((p * 4 + k) * 7) + 2 = nI ((p * 4 + k) * 7 + 2) from nI_add _ 2, nI_clamp (by have := pp_lt H; omega)]
theorem pp_vo2 {P : Int32} {p k : Nat} (H : pn_P P p) (hk : k < 4) : vp_in ((((P * 4) + nI k) * 7) + 2) 56 := by
  rw [pp_o H, show nI ((p * 4 + k) * 7) + 2 = nI ((p * 4 + k) * 7 + 2) from nI_add _ 2]; exact vp_in_nI (by have := pp_lt H; omega) (by decide)
theorem pp_o3 {P : Int32} {p k : Nat} (H : pn_P P p) (hk : k < 4) : ((((P * 4) + nI k) * 7) + 3).toNatClampNeg = (p * 4 + k) * 7 + 3 := by
  rw [pp_o H, show nI ((p * 4 + k) * 7) + 3 = nI ((p * 4 + k) * 7 + 3) from nI_add _ 3, nI_clamp (by have := pp_lt H; omega)]
theorem pp_vo3 {P : Int32} {p k : Nat} (H : pn_P P p) (hk : k < 4) : vp_in ((((P * 4) + nI k) * 7) + 3) 56 := by
  rw [pp_o H, show nI ((p * 4 + k) * 7) + 3 = nI ((p * 4 + k) * 7 + 3) from nI_add _ 3]; exact vp_in_nI (by have := pp_lt H; omega) (by decide)
theorem pp_o4 {P : Int32} {p k : Nat} (H : pn_P P p) (hk : k < 4) : ((((P * 4) + nI k) * 7) + 4).toNatClampNeg = (p * 4 + k) * 7 + 4 := by
  rw [pp_o H, show nI ((p * 4 + k) * 7) + 4 = nI ((p * 4 + k) * 7 + 4) from nI_add _ 4, nI_clamp (by have := pp_lt H; omega)]
theorem pp_vo4 {P : Int32} {p k : Nat} (H : pn_P P p) (hk : k < 4) : vp_in ((((P * 4) + nI k) * 7) + 4) 56 := by
  rw [pp_o H, show nI ((p * 4 + k) * 7) + 4 = nI ((p * 4 + k) * 7 + 4) from nI_add _ 4]; exact vp_in_nI (by have := pp_lt H; omega) (by decide)
theorem pp_o5 {P : Int32} {p k : Nat} (H : pn_P P p) (hk : k < 4) : ((((P * 4) + nI k) * 7) + 5).toNatClampNeg = (p * 4 + k) * 7 + 5 := by
  rw [pp_o H, show nI ((p * 4 + k) * 7) + 5 = nI ((p * 4 + k) * 7 + 5) from nI_add _ 5, nI_clamp (by have := pp_lt H; omega)]
theorem pp_vo5 {P : Int32} {p k : Nat} (H : pn_P P p) (hk : k < 4) : vp_in ((((P * 4) + nI k) * 7) + 5) 56 := by
  rw [pp_o H, show nI ((p * 4 + k) * 7) + 5 = nI ((p * 4 + k) * 7 + 5) from nI_add _ 5]; exact vp_in_nI (by have := pp_lt H; omega) (by decide)
theorem pp_o6 {P : Int32} {p k : Nat} (H : pn_P P p) (hk : k < 4) : ((((P * 4) + nI k) * 7) + 6).toNatClampNeg = (p * 4 + k) * 7 + 6 := by
  rw [pp_o H, show nI ((p * 4 + k) * 7) + 6 = nI ((p * 4 + k) * 7 + 6) from nI_add _ 6, nI_clamp (by have := pp_lt H; omega)]
theorem pp_vo6 {P : Int32} {p k : Nat} (H : pn_P P p) (hk : k < 4) : vp_in ((((P * 4) + nI k) * 7) + 6) 56 := by
  rw [pp_o H, show nI ((p * 4 + k) * 7) + 6 = nI ((p * 4 + k) * 7 + 6) from nI_add _ 6]; exact vp_in_nI (by have := pp_lt H; omega) (by decide)
theorem pp_3 {k : Nat} (hk : k < 4) : ((3 : Int32) + nI k).toNatClampNeg = 3 + k := by
  rw [show (3 : Int32) + nI k = nI (3 + k) from nI_add 3 k, nI_clamp (by omega)]
theorem pp_v3 {k : Nat} (hk : k < 4) : vp_in ((3 : Int32) + nI k) 7 := by
  rw [show (3 : Int32) + nI k = nI (3 + k) from nI_add 3 k]; exact vp_in_nI (by omega) (by decide)
theorem pp_z (k : Nat) : (0 : Int32) + nI k = nI k := by
  have h := nI_add 0 k
  rw [Nat.zero_add] at h
  exact h
theorem pp_bk {b k : Nat} (hb : b ≤ 105) (hk : k < 7) : (nI b + nI k).toNatClampNeg = b + k := by
  rw [nI_add, nI_clamp (by omega)]
theorem pp_vbk {b k : Nat} (hb : b ≤ 105) (hk : k < 7) : vp_in (nI b + nI k) 112 := by
  rw [nI_add]; exact vp_in_nI (by omega) (by decide)
theorem pp_b3k {b k : Nat} (hb : b ≤ 105) (hk : k < 4) : ((nI b + 3) + nI k).toNatClampNeg = b + (3 + k) := by
  rw [show nI b + 3 = nI (b + 3) from nI_add b 3, nI_add, nI_clamp (by omega)]; omega
theorem pp_vb3k {b k : Nat} (hb : b ≤ 105) (hk : k < 4) : vp_in ((nI b + 3) + nI k) 112 := by
  rw [show nI b + 3 = nI (b + 3) from nI_add b 3, nI_add]; exact vp_in_nI (by omega) (by decide)
theorem pp_g4 {k : Nat} (hk : k < 4) : ¬ (4 : Int32) ≤ nI k := nI_ge (b := 4) hk (by decide)
theorem pp_g7 {k : Nat} (hk : k < 7) : ¬ (7 : Int32) ≤ nI k := nI_ge (b := 7) hk (by decide)
theorem pp_44 : (4 : Int32) ≤ nI 4 := by decide
theorem pp_77 : (7 : Int32) ≤ nI 7 := by decide
theorem pp_out {v : Int32} (h0 : ¬ v = 0) (h1 : ¬ v = 1) : v < 0 ∨ (¬ v < 0 ∧ 1 < v ∧ ¬ v ≤ 1) := by
  have z : (0 : Int32).toInt = 0 := by decide
  have o : (1 : Int32).toInt = 1 := by decide
  have n0 : ¬ v.toInt = 0 := fun e => h0 (Int32.toInt_inj.mp (e.trans z.symm))
  have n1 : ¬ v.toInt = 1 := fun e => h1 (Int32.toInt_inj.mp (e.trans o.symm))
  rw [Int32.lt_iff_toInt_lt, Int32.lt_iff_toInt_lt, Int32.le_iff_toInt_le, z, o]
  omega
def pn_tj (st ti : Nat → Int32) (p : Nat) : Nat → Int32 := if st p < 4 then upd ti p 0 else if 8 < st p then upd ti p 0 else ti
theorem pn_tj_on {st ti : Nat → Int32} {p : Nat} (h4 : ¬ st p < 4) (h8 : ¬ 8 < st p) : pn_tj st ti p = ti := by
  unfold pn_tj
  rw [if_neg h4, if_neg h8]
theorem pn_tj_off {st ti : Nat → Int32} {p : Nat} (h : st p < 4 ∨ (¬ st p < 4 ∧ 8 < st p)) : pn_tj st ti p = upd ti p 0 := by
  unfold pn_tj
  rcases h with h4 | ⟨h4, h8⟩
  · rw [if_pos h4]
  · rw [if_neg h4, if_pos h8]
theorem pn_tj_k {st ti : Nat → Int32} {p s : Nat} (es : st p = nI s) (hs9 : s ≤ 9) (ht : s < 4 ∨ 8 < s → ti p = 0) : pn_tj st ti p = ti := by
  by_cases c4 : s < 4
  · rw [pn_tj_off (Or.inl (by rw [es]; exact nI_lt (b := 4) c4 (by decide))), pn_self ti p 0 (ht (Or.inl c4))]
  · have n4 : ¬ st p < 4 := by rw [es]; exact nI_nlt (b := 4) (by omega) (by omega)
    by_cases c8 : 8 < s
    · rw [pn_tj_off (Or.inr ⟨n4, by rw [es]; exact nI_lt (a := 8) c8 (by omega)⟩), pn_self ti p 0 (ht (Or.inr c8))]
    · exact pn_tj_on n4 (by rw [es]; exact nI_nlt (a := 8) (by omega) (by omega))
def pn_VS (st ti : Nat → Int32) : Prop := ∀ p, p < 2 → ∃ s : Nat, s ≤ 9 ∧ st p = nI s ∧ (s < 4 ∨ 8 < s → ti p = 0)
def pn_VO (lo hi ic : Nat → Int32) : Prop := ∀ i, i < 8 → (0 ≤ lo i ∧ 0 ≤ hi i ∧ hi i ≤ 65535) ∧ (ic i = 0 ∨ ic i = 1)
def pn_VQ (q : Nat → Int32) : Prop := ∀ d, d < 2 → ∃ s : Nat, s ≤ 8 ∧ q d = nI s
def pn_VN (no : Nat → Int32) : Prop := no 0 = -1 ∧ no 1 = -1 ∧ no 2 = -1 ∧ no 3 = -1
def pn_V (st ti lo hi ic q no : Nat → Int32) : Prop := pn_VS st ti ∧ pn_VO lo hi ic ∧ pn_VQ q ∧ pn_VN no
theorem pn_VS_u {st ti ti' : Nat → Int32} {p n : Nat} {N : Int32} (V : pn_VS st ti) (eN : N = nI n) (hn : n ≤ 9) (ht : ∀ j, j ≠ p → ti' j = ti j) (h0 : n < 4 ∨ 8 < n → ti' p = 0) : pn_VS (upd st p N) ti' := by
  intro j hj
  by_cases e : j = p
  · refine ⟨n, hn, ?_, ?_⟩
    · rw [e, pn_at, eN]
    · rw [e]; exact h0
  · obtain ⟨s, h1, h2, h3⟩ := V j hj
    refine ⟨s, h1, ?_, ?_⟩
    · rw [pn_ne _ _ e]; exact h2
    · rw [ht j e]; exact h3
theorem pn_VS_k {st ti ti' : Nat → Int32} {p n : Nat} (V : pn_VS st ti) (hp : p < 2) (en : st p = nI n) (hn : n ≤ 9) (ht : ∀ j, j ≠ p → ti' j = ti j) (h0 : n < 4 ∨ 8 < n → ti' p = 0) : pn_VS st ti' := by
  have h := pn_VS_u (p := p) V en hn ht h0
  rw [pn_self st p (st p) rfl] at h
  exact h
theorem pn_VQ_a {q : Nat → Int32} {p : Nat} (V : pn_VQ q) (hp : p < 2) : pn_VQ (pn_aq q p) := by
  obtain ⟨s, h1, h2⟩ := V p hp
  by_cases h8 : s < 8
  · rw [pn_aq_lt h2 h8]
    intro j hj
    by_cases e : j = p
    · refine ⟨s + 1, by omega, ?_⟩
      rw [e, pn_at, h2, nI_1]
    · rw [pn_ne _ _ e]; exact V j hj
  · rw [pn_aq_ge h2 h8 h1]; exact V
theorem pn_VO_in {lo hi ic : Nat → Int32} {p : Nat} (V : pn_VO lo hi ic) : pn_VO lo hi (pn_4 ic (p * 4) (pn_in lo hi p)) := by
  intro i hi8
  refine ⟨(V i hi8).1, ?_⟩
  refine pn_4_p (R := fun x => x = 0 ∨ x = 1) ?_ (V i hi8).2
  intro k _
  show (if _ then _ else _) = (0 : Int32) ∨ (if _ then _ else _) = (1 : Int32)
  by_cases h : hi (p * 4 + k) < lo (p * 4 + k)
  · exact Or.inl (if_pos h)
  · exact Or.inr (if_neg h)
theorem pn_VO_aI {lo hi ic : Nat → Int32} {c : Int32} {m : Nat → Int32} {p : Nat} (V : pn_VO lo hi ic) (hp : p < 2) : pn_VO lo hi (pn_4 ic (p * 4) (pn_aI c m ic p)) := by
  intro i hi8
  refine ⟨(V i hi8).1, ?_⟩
  refine pn_4_p (R := fun x => x = 0 ∨ x = 1) ?_ (V i hi8).2
  intro k hk
  have h2 := (V (p * 4 + k) (by omega)).2
  unfold pn_aI
  by_cases h : m (3 + k) = -1
  · rw [if_pos h]; exact h2
  · rw [if_neg h]
    by_cases h3 : c = 3
    · rw [if_pos h3]; exact h2
    · rw [if_neg h3]; exact Or.inl rfl
