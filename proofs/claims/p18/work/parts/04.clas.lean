def pn_OM (l g x : Int32) : Int32 := if x - 1 < l then (if g < x + 1 then x else x + 1) else x - 1
def pn_J (lo hi wa ic : Nat → Int32) (p : Nat) (M : Nat → Int32) : Nat → Int32 := fun k => if M (3 + k) = -1 then -1 else if lo (p * 4 + k) ≤ hi (p * 4 + k) then (if lo (p * 4 + k) ≤ M (3 + k) then (if M (3 + k) ≤ hi (p * 4 + k) then (if k = 2 then (if ic (p * 4 + k) = 0 then -1 else if M (3 + k) = wa (p * 4 + k) then pn_OM (lo (p * 4 + k)) (hi (p * 4 + k)) (wa (p * 4 + k)) else -1) else -1) else hi (p * 4 + k)) else lo (p * 4 + k)) else -2
def pn_o2 (x j : Int32) : Int32 := if j = -2 then 1 else x
def pn_o3 (x j : Int32) : Int32 := if j < 0 then x else 1
def pn_R (J : Nat → Int32) : Int32 := pn_o2 (pn_o2 (pn_o2 (pn_o2 0 (J 0)) (J 1)) (J 2)) (J 3)
def pn_N (J : Nat → Int32) : Int32 := pn_o3 (pn_o3 (pn_o3 (pn_o3 0 (J 0)) (J 1)) (J 2)) (J 3)
def pn_C (J : Nat → Int32) (n f : Int32) : Int32 := if pn_R J = 0 then (if pn_N J = 0 then 2 else if n < f then 3 else 4) else 4
def pn_Qv (c r j m : Int32) : Int32 := if c = 2 then m else if r = 0 then (if j < 0 then -1 else if c = 3 then j else m) else (if j = -2 then (if c = 3 then j else m) else -1)
def pn_Q (J M : Nat → Int32) (c : Int32) : Nat → Int32 := fun k => pn_Qv c (pn_R J) (J k) (M (3 + k))
def pn_ck (j : Int32) : Int32 := if j = -2 then 2 else if j < 0 then 0 else 1
theorem pn_o2_01 {x j : Int32} (h : x = 0 ∨ x = 1) : pn_o2 x j = 0 ∨ pn_o2 x j = 1 := by
  unfold pn_o2
  split
  · exact Or.inr rfl
  · exact h
theorem pn_o3_01 {x j : Int32} (h : x = 0 ∨ x = 1) : pn_o3 x j = 0 ∨ pn_o3 x j = 1 := by
  unfold pn_o3
  split
  · exact h
  · exact Or.inr rfl
theorem pn_inc {l g x : Int32} (hl : 0 ≤ l) (hg : g ≤ 65535) (h1 : l ≤ x) (h2 : x ≤ g) : 0 ≤ x + 1 := by
  have z : (0 : Int32).toInt = 0 := by decide
  have b : (65535 : Int32).toInt = 65535 := by decide
  have o : (1 : Int32).toInt = 1 := by decide
  rw [Int32.le_iff_toInt_le] at hl hg h1 h2
  rw [z] at hl
  rw [b] at hg
  rw [Int32.le_iff_toInt_le, z, Int32.toInt_add, o, Int.bmod_eq_of_le (by omega) (by omega)]
  omega
section CX
variable {C T F K rc : Int32} {st rs ti ni cr hc nk ms ei us dn sa fi lo hi wa ic se lc rm w q ih vd ro no : Nat → Int32} {P : Int32} {p : Nat} {post : St2 → Prop}
variable {post1 : Int32 → Prop} {u0 : St0} {M : Nat → Int32}
theorem xa_om {x : Int32} {i : Nat} (v : vp_in x 8) (e : x.toNatClampNeg = i) (h : post1 (pn_OM (lo i) (hi i) (wa i))) : wpX_otherMagic post1 (C, T, F, K, rc, st, rs, ti, ni, cr, hc, nk, ms, ei, us, dn, sa, fi, lo, hi, wa, ic, se, lc, rm, w, q, ih, vd, ro, no) x := by
  unfold wpX_otherMagic
  rw [e]
  unfold pn_OM at h
  refine ⟨v, v, ?_⟩
  by_cases c1 : wa i - 1 < lo i
  · rw [if_pos c1] at h
    refine br_t c1 ⟨v, v, ?_⟩
    by_cases c2 : hi i < wa i + 1
    · rw [if_pos c2] at h
      exact br_t c2 ⟨v, h⟩
    · rw [if_neg c2] at h
      exact br_f c2 ⟨v, h⟩
  · rw [if_neg c1] at h
    exact br_f c1 ⟨v, h⟩
theorem xa_judge (HP : pn_P P p) {k : Nat} (hk : k < 4) (h : post1 ((pn_J lo hi wa ic p M) k)) : wpX_judge post1 (C, T, F, K, rc, st, rs, ti, ni, cr, hc, nk, ms, ei, us, dn, sa, fi, lo, hi, wa, ic, se, lc, rm, w, q, ih, vd, ro, no) P (nI k) (M (3 + k)) := by
  unfold wpX_judge
  intro x4 e3
  have e4 : x4.toNatClampNeg = p * 4 + k := by rw [e3, pp_4 HP hk]
  have v4 : vp_in x4 8 := by rw [e3]; exact pp_v4 HP hk
  rw [e4]
  unfold pn_J at h
  by_cases c1 : M (3 + k) = -1
  · rw [if_pos c1] at h
    exact br_t c1 h
  rw [if_neg c1] at h
  refine br_f c1 ⟨v4, v4, ?_⟩
  by_cases c2 : lo (p * 4 + k) ≤ hi (p * 4 + k)
  · rw [if_pos c2] at h
    refine br_t c2 ⟨v4, ?_⟩
    by_cases c3 : lo (p * 4 + k) ≤ M (3 + k)
    · rw [if_pos c3] at h
      refine br_t c3 ⟨v4, ?_⟩
      by_cases c4 : M (3 + k) ≤ hi (p * 4 + k)
      · rw [if_pos c4] at h
        refine br_t c4 ?_
        have k2 : (nI k = 2) ↔ k = 2 := nI_eq (a := k) (b := 2) (by omega) (by decide)
        by_cases c5 : k = 2
        · rw [if_pos c5] at h
          refine br_t (k2.mpr c5) ⟨v4, ?_⟩
          by_cases c6 : ic (p * 4 + k) = 0
          · rw [if_pos c6] at h
            exact br_t c6 h
          · rw [if_neg c6] at h
            refine br_f c6 ⟨v4, ?_⟩
            by_cases c7 : M (3 + k) = wa (p * 4 + k)
            · rw [if_pos c7] at h
              exact br_t c7 (xa_om v4 e4 h)
            · rw [if_neg c7] at h
              exact br_f c7 h
        · rw [if_neg c5] at h
          exact br_f (fun z => c5 (k2.mp z)) h
      · rw [if_neg c4] at h
        exact br_f c4 ⟨v4, h⟩
    · rw [if_neg c3] at h
      exact br_f c3 ⟨v4, h⟩
  · rw [if_neg c2] at h
    exact br_f c2 h
theorem xe_49 {k : Nat} {z : Int32} (hk : k < 4) (h : post1 (if z = 0 then -1 else if rc = 3 then vd k else ih (3 + k))) : wX_replyOption_49 post1 (nI k) z C T F K rc st rs ti ni cr hc nk ms ei us dn sa fi lo hi wa ic se lc rm w q ih vd ro no := by
  unfold wX_replyOption_49
  rw [pp_3 hk, nI_clamp (n := k) (by omega)]
  by_cases c1 : z = 0
  · rw [if_pos c1] at h
    exact br_t c1 h
  · rw [if_neg c1] at h
    refine br_f c1 ?_
    by_cases c2 : rc = 3
    · rw [if_pos c2] at h
      exact br_t c2 ⟨vp_in_nI hk (by decide), h⟩
    · rw [if_neg c2] at h
      exact br_f c2 ⟨pp_v3 hk, h⟩
theorem xa_rep {k : Nat} {y j m : Int32} (hk : k < 4) (hv : vd k = j) (hm : ih (3 + k) = m) (h : post1 (pn_Qv rc y j m)) : wpX_replyOption post1 (C, T, F, K, rc, st, rs, ti, ni, cr, hc, nk, ms, ei, us, dn, sa, fi, lo, hi, wa, ic, se, lc, rm, w, q, ih, vd, ro, no) (nI k) y := by
  unfold wpX_replyOption
  show (rc = 2 → _) ∧ (¬ rc = 2 → _)
  rw [pp_3 hk, nI_clamp (n := k) (by omega), hv, hm]
  unfold pn_Qv at h
  by_cases c1 : rc = 2
  · rw [if_pos c1] at h
    exact br_t c1 ⟨pp_v3 hk, h⟩
  rw [if_neg c1] at h
  refine br_f c1 ?_
  by_cases c2 : y = 0
  · rw [if_pos c2] at h
    refine br_t c2 ⟨vp_in_nI hk (by decide), ?_⟩
    by_cases c3 : j < 0
    · rw [if_pos c3] at h
      exact br_t c3 (xe_49 hk (by rw [if_pos rfl]; exact h))
    · rw [if_neg c3] at h
      exact br_f c3 (xe_49 hk (by rw [if_neg (by decide), hv, hm]; exact h))
  · rw [if_neg c2] at h
    refine br_f c2 ⟨vp_in_nI hk (by decide), ?_⟩
    by_cases c3 : j = -2
    · rw [if_pos c3] at h
      exact br_t c3 (xe_49 hk (by rw [if_neg (by decide), hv, hm]; exact h))
    · rw [if_neg c3] at h
      exact br_f c3 (xe_49 hk (by rw [if_pos rfl]; exact h))
theorem xs_136 {n k : Nat} {y j m : Int32} (hk : k < 4) (hv : vd k = j) (hm : ih (3 + k) = m) (h : wX_classify_136 post y C T F K rc n (nI (k + 1)) st rs ti ni cr hc nk ms ei us dn sa fi lo hi wa ic se lc rm w q ih vd (upd ro k (pn_Qv rc y j m)) no) : wX_classify_136 post y C T F K rc (n + 1) (nI k) st rs ti ni cr hc nk ms ei us dn sa fi lo hi wa ic se lc rm w q ih vd ro no := by
  refine br_f (pp_g4 hk) (xa_rep hk hv hm ⟨vp_in_nI hk (by decide), ?_⟩)
  rw [nI_clamp (n := k) (by omega)]
  exact nm_e (nm_r (nI_1 k) h)
theorem xa_136 {y : Int32} {J M : Nat → Int32} (hv : ∀ k, k < 4 → vd k = J k) (hM : ∀ f, f < 7 → ih f = M f) (h : ∀ ro', (∀ k, k < 4 → ro' k = pn_Qv rc y (J k) (M (3 + k))) → post (C, T, F, K, rc, st, rs, ti, ni, cr, hc, nk, ms, ei, us, dn, sa, fi, lo, hi, wa, ic, se, lc, rm, w, q, ih, vd, ro', no)) : ∃ n, wX_classify_136 post y C T F K rc n 0 st rs ti ni cr hc nk ms ei us dn sa fi lo hi wa ic se lc rm w q ih vd ro no := by
  refine ⟨5, xs_136 (k := 0) (by decide) (hv 0 (by decide)) (hM (3 + 0) (by decide)) (xs_136 (k := 1) (by decide) (hv 1 (by decide)) (hM (3 + 1) (by decide)) (xs_136 (k := 2) (by decide) (hv 2 (by decide)) (hM (3 + 2) (by decide)) (xs_136 (k := 3) (by decide) (hv 3 (by decide)) (hM (3 + 3) (by decide)) (br_t pp_44 (h _ ?_)))))⟩
  intro k hk
  rcases pp_k4 hk with rfl | rfl | rfl | rfl <;> rfl
theorem xe_57 {J7 : Int32 → Int32 → Int32 → (Nat → Int32) → (Nat → Int32) → (Nat → Int32) → (Nat → Int32) → (Nat → Int32) → (Nat → Int32) → (Nat → Int32) → (Nat → Int32) → (Nat → Int32) → (Nat → Int32) → (Nat → Int32) → (Nat → Int32) → (Nat → Int32) → (Nat → Int32) → (Nat → Int32) → (Nat → Int32) → (Nat → Int32) → (Nat → Int32) → (Nat → Int32) → (Nat → Int32) → (Nat → Int32) → (Nat → Int32) → (Nat → Int32) → (Nat → Int32) → (Nat → Int32) → (Nat → Int32) → Prop} {k : Nat} {x3 z : Int32} (hk : k < 4) (hx : x3 = 0 ∨ x3 = 1) (h : J7 z (pn_o3 x3 (vd k)) (nI (k + 1)) st rs ti ni cr hc nk ms ei us dn sa fi lo hi wa ic se lc rm w q ih vd ro no) : wX_classify_57 post J7 P x3 (nI k) z C T F K rc st rs ti ni cr hc nk ms ei us dn sa fi lo hi wa ic se lc rm w q ih vd ro no := by
  unfold wX_classify_57
  rw [nI_clamp (n := k) (by omega)]
  rcases hx with rfl | rfl
  · refine br_t rfl ⟨vp_in_nI hk (by decide), ?_⟩
    by_cases c : vd k < 0
    · rw [show pn_o3 0 (vd k) = 0 from if_pos c] at h
      exact br_t c (br_t rfl (nm_r (nI_1 k) h))
    · rw [show pn_o3 0 (vd k) = 1 from if_neg c] at h
      exact br_f c (br_f (by decide) (nm_r (nI_1 k) h))
  · rw [show pn_o3 1 (vd k) = 1 from ite_self 1] at h
    exact br_f (by decide) (nm_r (nI_1 k) h)
theorem xs_c7 (HP : pn_P P p) {n k : Nat} {x2 x3 : Int32} (hM : ∀ f, f < 7 → ih f = M f) (hk : k < 4) (h2 : x2 = 0 ∨ x2 = 1) (h3 : x3 = 0 ∨ x3 = 1) (h : wX_classify_7 post P C T F K rc n (pn_o2 x2 ((pn_J lo hi wa ic p M) k)) (pn_o3 x3 ((pn_J lo hi wa ic p M) k)) (nI (k + 1)) st rs ti ni cr hc nk ms ei us dn sa fi lo hi wa ic se lc rm w q ih (upd vd k ((pn_J lo hi wa ic p M) k)) ro no) : wX_classify_7 post P C T F K rc (n + 1) x2 x3 (nI k) st rs ti ni cr hc nk ms ei us dn sa fi lo hi wa ic se lc rm w q ih vd ro no := by
  refine br_f (pp_g4 hk) ⟨pp_v3 hk, ?_⟩
  rw [pp_3 hk, hM (3 + k) (by omega)]
  refine xa_judge HP hk ⟨vp_in_nI hk (by decide), ?_⟩
  rw [nI_clamp (n := k) (by omega)]
  refine nm_e ?_
  rw [pn_at]
  have hv : upd vd k ((pn_J lo hi wa ic p M) k) k = (pn_J lo hi wa ic p M) k := pn_at _ _ _
  rcases h2 with rfl | rfl
  · refine br_t rfl ⟨vp_in_nI hk (by decide), ?_⟩
    by_cases c : (pn_J lo hi wa ic p M) k = -2
    · rw [show pn_o2 0 ((pn_J lo hi wa ic p M) k) = 1 from if_pos c] at h
      refine br_t c (xe_57 hk h3 ?_)
      rw [hv]
      exact h
    · rw [show pn_o2 0 ((pn_J lo hi wa ic p M) k) = 0 from if_neg c] at h
      refine br_f c (xe_57 hk h3 ?_)
      rw [hv]
      exact h
  · rw [show pn_o2 1 ((pn_J lo hi wa ic p M) k) = 1 from ite_self 1] at h
    refine br_f (by decide) (xe_57 hk h3 ?_)
    rw [hv]
    exact h
theorem xe_c7 (HP : pn_P P p) {n : Nat} {J : Nat → Int32} (hM : ∀ f, f < 7 → ih f = M f) (hv : ∀ k, k < 4 → vd k = J k) (h : ∀ ro', (∀ k, k < 4 → ro' k = pn_Q J M (pn_C J (nk p) F) k) → post (C, T, F, K, pn_C J (nk p) F, st, rs, ti, ni, cr, hc, nk, ms, ei, us, dn, sa, fi, lo, hi, wa, ic, se, lc, rm, w, q, ih, vd, ro', no)) : wX_classify_7 post P C T F K rc (n + 1) (pn_R J) (pn_N J) (nI 4) st rs ti ni cr hc nk ms ei us dn sa fi lo hi wa ic se lc rm w q ih vd ro no := by
  refine br_t pp_44 ?_
  rw [pp_n HP]
  by_cases c1 : pn_R J = 0
  · refine br_t c1 ?_
    by_cases c2 : pn_N J = 0
    · rw [show pn_C J (nk p) F = 2 from (if_pos c1).trans (if_pos c2)] at h
      exact br_t c2 (xa_136 hv hM h)
    · refine br_f c2 ⟨pp_v HP, ?_⟩
      by_cases c3 : nk p < F
      · rw [show pn_C J (nk p) F = 3 from (if_pos c1).trans ((if_neg c2).trans (if_pos c3))] at h
        exact br_t c3 (xa_136 hv hM h)
      · rw [show pn_C J (nk p) F = 4 from (if_pos c1).trans ((if_neg c2).trans (if_neg c3))] at h
        exact br_f c3 (xa_136 hv hM h)
  · rw [show pn_C J (nk p) F = 4 from if_neg c1] at h
    exact br_f c1 (xa_136 hv hM h)
theorem xa_class (HP : pn_P P p) (hM : ∀ f, f < 7 → ih f = M f) (h : ∀ vd' ro', (∀ k, k < 4 → ro' k = pn_Q (pn_J lo hi wa ic p M) M (pn_C (pn_J lo hi wa ic p M) (nk p) F) k) → post (C, T, F, K, pn_C (pn_J lo hi wa ic p M) (nk p) F, st, rs, ti, ni, cr, hc, nk, ms, ei, us, dn, sa, fi, lo, hi, wa, ic, se, lc, rm, w, q, ih, vd', ro', no)) : wpX_classify post (C, T, F, K, rc, st, rs, ti, ni, cr, hc, nk, ms, ei, us, dn, sa, fi, lo, hi, wa, ic, se, lc, rm, w, q, ih, vd, ro, no) P := by
  unfold wpX_classify
  have z : (0 : Int32) = 0 ∨ (0 : Int32) = 1 := Or.inl rfl
  have a0 := pn_o2_01 (j := (pn_J lo hi wa ic p M) 0) z
  have a1 := pn_o2_01 (j := (pn_J lo hi wa ic p M) 1) a0
  have a2 := pn_o2_01 (j := (pn_J lo hi wa ic p M) 2) a1
  have b0 := pn_o3_01 (j := (pn_J lo hi wa ic p M) 0) z
  have b1 := pn_o3_01 (j := (pn_J lo hi wa ic p M) 1) b0
  have b2 := pn_o3_01 (j := (pn_J lo hi wa ic p M) 2) b1
  refine ⟨5, xs_c7 HP (k := 0) hM (by decide) z z (xs_c7 HP (k := 1) hM (by decide) a0 b0 (xs_c7 HP (k := 2) hM (by decide) a1 b1 (xs_c7 HP (k := 3) hM (by decide) a2 b2 (xe_c7 (J := (pn_J lo hi wa ic p M)) HP hM ?_ (fun ro' hr => h _ ro' hr)))))⟩
  intro k hk
  rcases pp_k4 hk with rfl | rfl | rfl | rfl <;> rfl
end CX
