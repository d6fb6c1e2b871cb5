def pn_OM (l g x : Int32) : Int32 := if x - 1 < l then (if g < x + 1 then x else x + 1) else x - 1
def pn_J (lo hi wa ic : Nat → Int32) (p : Nat) (M : Nat → Int32) : Nat → Int32 := fun k => if M (3 + k) = -1 then -1 else if lo (p * 4 + k) ≤ hi (p * 4 + k) then (if lo (p * 4 + k) ≤ M (3 + k) then (if M (3 + k) ≤ hi (p * 4 + k) then (if k = 2 then (if ic (p * 4 + k) = 0 then -1 else if M (3 + k) = wa (p * 4 + k) then pn_OM (lo (p * 4 + k)) (hi (p * 4 + k)) (wa (p * 4 + k)) else -1) else -1) else hi (p * 4 + k)) else lo (p * 4 + k)) else -2
def pn_o2 (x j : Int32) : Int32 := if j = -2 then 1 else x
def pn_o3 (x j : Int32) : Int32 := if j < 0 then x else 1
def pn_R (J : Nat → Int32) : Int32 := pn_o2 (pn_o2 (pn_o2 (pn_o2 0 (J 0)) (J 1)) (J 2)) (J 3)
def pn_N (J : Nat → Int32) : Int32 := pn_o3 (pn_o3 (pn_o3 (pn_o3 0 (J 0)) (J 1)) (J 2)) (J 3)
def pn_C (J : Nat → Int32) (n f : Int32) : Int32 := if pn_R J = 0 then (if pn_N J = 0 then 2 else if n < f then 3 else 4) else 4
def pn_Qv (c r j m : Int32) : Int32 := if c = 2 then m else if r = 0 then (if j < 0 then -1 else if c = 3 then j else m) else (if j = -2 then (if c = 3 then j else m) else -1)
def pn_Q (J M : Nat → Int32) (c : Int32) : Nat → Int32 := fun k => pn_Qv c (pn_R J) (J k) (M (3 + k))
def pn_ck (j : Int32) : Int32 := if j = -2 then 2 else if j < 0 then 0 else 1
theorem pn_o2_01 {x j : Int32} (h : x = 0 ∨ x = 1) : pn_o2 x j = 0 ∨ pn_o2 x j = 1 := by
  unfold pn_o2
  split
  · exact Or.inr rfl
  · exact h
theorem pn_o3_01 {x j : Int32} (h : x = 0 ∨ x = 1) : pn_o3 x j = 0 ∨ pn_o3 x j = 1 := by
  unfold pn_o3
  split
  · exact h
  · exact Or.inr rfl
theorem pn_inc {l g x : Int32} (hl : 0 ≤ l) (hg : g ≤ 65535) (h1 : l ≤ x) (h2 : x ≤ g) : 0 ≤ x + 1 := by
  have z : (0 : Int32).toInt = 0 := by decide
  have b : (65535 : Int32).toInt = 65535 := by decide
  have o : (1 : Int32).toInt = 1 := by decide
  rw [Int32.le_iff_toInt_le] at hl hg h1 h2
  rw [z] at hl
  rw [b] at hg
  rw [Int32.le_iff_toInt_le, z, Int32.toInt_add, o, Int.bmod_eq_of_le (by omega) (by omega)]
  omega
section CX
variable {C T F K rc : Int32} {st rs ti ni cr hc nk ms ei us dn sa fi lo hi wa ic se lc rm w q ih vd ro no : Nat → Int32} {P : Int32} {p : Nat} {post : SX → Prop}
variable {post1 : Int32 → Prop} {M : Nat → Int32}
theorem xa_om {x : Int32} {i : Nat} (v : vp_in x 8) (e : x.toNatClampNeg = i) (h : post1 (pn_OM (lo i) (hi i) (wa i))) : wpX_otherMagic post1 (C, T, F, K, rc, st, rs, ti, ni, cr, hc, nk, ms, ei, us, dn, sa, fi, lo, hi, wa, ic, se, lc, rm, w, q, ih, vd, ro, no) x := by
  unfold wpX_otherMagic
  rw [e]
  unfold pn_OM at h
  refine ⟨v, v, ?_⟩
  by_cases c1 : wa i - 1 < lo i
  · rw [if_pos c1] at h
    refine br_t c1 ⟨v, v, ?_⟩
    by_cases c2 : hi i < wa i + 1
    · rw [if_pos c2] at h
      exact br_t c2 ⟨v, h⟩
    · rw [if_neg c2] at h
      exact br_f c2 ⟨v, h⟩
  · rw [if_neg c1] at h
    exact br_f c1 ⟨v, h⟩
theorem xa_judge (HP : pn_P P p) {k : Nat} (hk : k < 4) (h : post1 ((pn_J lo hi wa ic p M) k)) : wpX_judge post1 (C, T, F, K, rc, st, rs, ti, ni, cr, hc, nk, ms, ei, us, dn, sa, fi, lo, hi, wa, ic, se, lc, rm, w, q, ih, vd, ro, no) P (nI k) (M (3 + k)) := by
  unfold wpX_judge
  intro x4 e3
  have e4 : x4.toNatClampNeg = p * 4 + k := by rw [e3, pp_4 HP hk]
  have v4 : vp_in x4 8 := by rw [e3]; exact pp_v4 HP hk
  rw [e4]
  unfold pn_J at h
  by_cases c1 : M (3 + k) = -1
  · rw [if_pos c1] at h
    exact br_t c1 h
  rw [if_neg c1] at h
  refine br_f c1 ⟨v4, v4, ?_⟩
  by_cases c2 : lo (p * 4 + k) ≤ hi (p * 4 + k)
  · rw [if_pos c2] at h
    refine br_t c2 ⟨v4, ?_⟩
    by_cases c3 : lo (p * 4 + k) ≤ M (3 + k)
    · rw [if_pos c3] at h
      refine br_t c3 ⟨v4, ?_⟩
      by_cases c4 : M (3 + k) ≤ hi (p * 4 + k)
      · rw [if_pos c4] at h
        refine br_t c4 ?_
        have k2 : (nI k = 2) ↔ k = 2 := nI_eq (a := k) (b := 2) (by omega) (by decide)
        by_cases c5 : k = 2
        · rw [if_pos c5] at h
          refine br_t (k2.mpr c5) ⟨v4, ?_⟩
          by_cases c6 : ic (p * 4 + k) = 0
          · rw [if_pos c6] at h
            exact br_t c6 h
          · rw [if_neg c6] at h
            refine br_f c6 ⟨v4, ?_⟩
            by_cases c7 : M (3 + k) = wa (p * 4 + k)
            · rw [if_pos c7] at h
              exact br_t c7 (xa_om v4 e4 h)
            · rw [if_neg c7] at h
              exact br_f c7 h
        · rw [if_neg c5] at h
          exact br_f (fun z => c5 (k2.mp z)) h
      · rw [if_neg c4] at h
        exact br_f c4 ⟨v4, h⟩
    · rw [if_neg c3] at h
      exact br_f c3 ⟨v4, h⟩
  · rw [if_neg c2] at h
    exact br_f c2 h
theorem xe_49 {k : Nat} {z : Int32} (hk : k < 4) (h : post1 (if z = 0 then -1 else if rc = 3 then vd k else ih (3 + k))) : wX_replyOption_49 post1 (nI k) z C T F K rc st rs ti ni cr hc nk ms ei us dn sa fi lo hi wa ic se lc rm w q ih vd ro no := by
  unfold wX_replyOption_49
  rw [pp_3 hk, nI_clamp (n := k) (by omega)]
  by_cases c1 : z = 0
  · rw [if_pos c1] at h
    exact br_t c1 h
  · rw [if_neg c1] at h
    refine br_f c1 ?_
    by_cases c2 : rc = 3
    · rw [if_pos c2] at h
      exact br_t c2 ⟨vp_in_nI hk (by decide), h⟩
    · rw [if_neg c2] at h
      exact br_f c2 ⟨pp_v3 hk, h⟩
theorem xa_rep {k : Nat} {y j m : Int32} (hk : k < 4) (hv : vd k = j) (hm : ih (3 + k) = m) (h : post1 (pn_Qv rc y j m)) : wpX_replyOption post1 (C, T, F, K, rc, st, rs, ti, ni, cr, hc, nk, ms, ei, us, dn, sa, fi, lo, hi, wa, ic, se, lc, rm, w, q, ih, vd, ro, no) (nI k) y := by
  unfold wpX_replyOption
  show (rc = 2 → _) ∧ (¬ rc = 2 → _)
  rw [pp_3 hk, nI_clamp (n := k) (by omega), hv, hm]
  unfold pn_Qv at h
  by_cases c1 : rc = 2
  · rw [if_pos c1] at h
    exact br_t c1 ⟨pp_v3 hk, h⟩
  rw [if_neg c1] at h
  refine br_f c1 ?_
  by_cases c2 : y = 0
  · rw [if_pos c2] at h
    refine br_t c2 ⟨vp_in_nI hk (by decide), ?_⟩
    by_cases c3 : j < 0
    · rw [if_pos c3] at h
      exact br_t c3 (xe_49 hk (by rw [if_pos rfl]; exact h))
    · rw [if_neg c3] at h
      exact br_f c3 (xe_49 hk (by rw [if_neg (by decide), hv, hm]; exact h))
  · rw [if_neg c2] at h
    refine br_f c2 ⟨vp_in_nI hk (by decide), ?_⟩
    by_cases c3 : j = -2
    · rw [if_pos c3] at h
      exact br_t c3 (xe_49 hk (by rw [if_neg (by decide), hv, hm]; exact h))
    · rw [if_neg c3] at h
      exact br_f c3 (xe_49 hk (by rw [if_pos rfl]; exact h))
theorem xs_136 {n k : Nat} {y j m : Int32} (hk : k < 4) (hv : vd k = j) (hm : ih (3 + k) = m) (h : wX_classify_136 post y C T F K rc n (nI (k + 1)) st rs ti ni cr hc nk ms ei us dn sa fi lo hi wa ic se lc rm w q ih vd (upd ro k (pn_Qv rc y j m)) no) : wX_classify_136 post y C T F K rc (n + 1) (nI k) st rs ti ni cr hc nk ms ei us dn sa fi lo hi wa ic se lc rm w q ih vd ro no := by
  refine br_f (pp_g4 hk) (xa_rep hk hv hm ⟨vp_in_nI hk (by decide), ?_⟩)
  rw [nI_clamp (n := k) (by omega)]
  exact nm_e (nm_r (nI_1 k) h)
theorem xa_136 {y : Int32} {J M : Nat → Int32} (hv : ∀ k, k < 4 → vd k = J k) (hM : ∀ f, f < 7 → ih f = M f) (h : ∀ ro', (∀ k, k < 4 → ro' k = pn_Qv rc y (J k) (M (3 + k))) → post (C, T, F, K, rc, st, rs, ti, ni, cr, hc, nk, ms, ei, us, dn, sa, fi, lo, hi, wa, ic, se, lc, rm, w, q, ih, vd, ro', no)) : ∃ n, wX_classify_136 post y C T F K rc n 0 st rs ti ni cr hc nk ms ei us dn sa fi lo hi wa ic se lc rm w q ih vd ro no := by
  refine ⟨5, xs_136 (k := 0) (by decide) (hv 0 (by decide)) (hM (3 + 0) (by decide)) (xs_136 (k := 1) (by decide) (hv 1 (by decide)) (hM (3 + 1) (by decide)) (xs_136 (k := 2) (by decide) (hv 2 (by decide)) (hM (3 + 2) (by decide)) (xs_136 (k := 3) (by decide) (hv 3 (by decide)) (hM (3 + 3) (by decide)) (br_t pp_44 (h _ ?_)))))⟩
  intro k hk
  rcases pp_k4 hk with rfl | rfl | rfl | rfl <;> rfl
theorem xe_57 {J7 : Int32 → Int32 → Int32 → (Nat → Int32) → (Nat → Int32) → (Nat → Int32) → (Nat → Int32) → (Nat → Int32) → (Nat → Int32) → (Nat → Int32) → (Nat → Int32) → (Nat → Int32) → (Nat → Int32) → (Nat → Int32) → (Nat → Int32) → (Nat → Int32) → (Nat → Int32) → (Nat → Int32) → (Nat → Int32) → (Nat → Int32) → (Nat → Int32) → (Nat → Int32) → (Nat → Int32) → (Nat → Int32) → (Nat → Int32) → (Nat → Int32) → (Nat → Int32) → (Nat → Int32) → (Nat → Int32) → Prop} {k : Nat} {x3 z : Int32} (hk : k < 4) (hx : x3 = 0 ∨ x3 = 1) (h : J7 z (pn_o3 x3 (vd k)) (nI (k + 1)) st rs ti ni cr hc nk ms ei us dn sa fi lo hi wa ic se lc rm w q ih vd ro no) : wX_classify_57 post J7 P x3 (nI k) z C T F K rc st rs ti ni cr hc nk ms ei us dn sa fi lo hi wa ic se lc rm w q ih vd ro no := by
  unfold wX_classify_57
  rw [nI_clamp (n := k) (by omega)]
  rcases hx with rfl | rfl
  · refine br_t rfl ⟨vp_in_nI hk (by decide), ?_⟩
    by_cases c : vd k < 0
    · rw [show pn_o3 0 (vd k) = 0 from if_pos c] at h
      exact br_t c (br_t rfl (nm_r (nI_1 k) h))
    · rw [show pn_o3 0 (vd k) = 1 from if_neg c] at h
      exact br_f c (br_f (by decide) (nm_r (nI_1 k) h))
  · rw [show pn_o3 1 (vd k) = 1 from ite_self 1] at h
    exact br_f (by decide) (nm_r (nI_1 k) h)
theorem xs_c7 (HP : pn_P P p) {n k : Nat} {x2 x3 : Int32} (hM : ∀ f, f < 7 → ih f = M f) (hk : k < 4) (h2 : x2 = 0 ∨ x2 = 1) (h3 : x3 = 0 ∨ x3 = 1) (h : wX_classify_7 post P C T F K rc n (pn_o2 x2 ((pn_J lo hi wa ic p M) k)) (pn_o3 x3 ((pn_J lo hi wa ic p M) k)) (nI (k + 1)) st rs ti ni cr hc nk ms ei us dn sa fi lo hi wa ic se lc rm w q ih (upd vd k ((pn_J lo hi wa ic p M) k)) ro no) : wX_classify_7 post P C T F K rc (n + 1) x2 x3 (nI k) st rs ti ni cr hc nk ms ei us dn sa fi lo hi wa ic se lc rm w q ih vd ro no := by
  refine br_f (pp_g4 hk) ⟨pp_v3 hk, ?_⟩
  rw [pp_3 hk, hM (3 + k) (by omega)]
  refine xa_judge HP hk ⟨vp_in_nI hk (by decide), ?_⟩
  rw [nI_clamp (n := k) (by omega)]
  refine nm_e ?_
  rw [pn_at]
  have hv : upd vd k ((pn_J lo hi wa ic p M) k) k = (pn_J lo hi wa ic p M) k := pn_at _ _ _
  rcases h2 with rfl | rfl
  · refine br_t rfl ⟨vp_in_nI hk (by decide), ?_⟩
    by_cases c : (pn_J lo hi wa ic p M) k = -2
    · rw [show pn_o2 0 ((pn_J lo hi wa ic p M) k) = 1 from if_pos c] at h
      refine br_t c (xe_57 hk h3 ?_)
      rw [hv]
      exact h
    · rw [show pn_o2 0 ((pn_J lo hi wa ic p M) k) = 0 from if_neg c] at h
      refine br_f c (xe_57 hk h3 ?_)
      rw [hv]
      exact h
  · rw [show pn_o2 1 ((pn_J lo hi wa ic p M) k) = 1 from ite_self 1] at h
    refine br_f (by decide) (xe_57 hk h3 ?_)
    rw [hv]
    exact h
theorem xe_c7 (HP : pn_P P p) {n : Nat} {J : Nat → Int32} (hM : ∀ f, f < 7 → ih f = M f) (hv : ∀ k, k < 4 → vd k = J k) (h : ∀ ro', (∀ k, k < 4 → ro' k = pn_Q J M (pn_C J (nk p) F) k) → post (C, T, F, K, pn_C J (nk p) F, st, rs, ti, ni, cr, hc, nk, ms, ei, us, dn, sa, fi, lo, hi, wa, ic, se, lc, rm, w, q, ih, vd, ro', no)) : wX_classify_7 post P C T F K rc (n + 1) (pn_R J) (pn_N J) (nI 4) st rs ti ni cr hc nk ms ei us dn sa fi lo hi wa ic se lc rm w q ih vd ro no := by
  refine br_t pp_44 ?_
  rw [pp_n HP]
  by_cases c1 : pn_R J = 0
  · refine br_t c1 ?_
    by_cases c2 : pn_N J = 0
    · rw [show pn_C J (nk p) F = 2 from (if_pos c1).trans (if_pos c2)] at h
      exact br_t c2 (xa_136 hv hM h)
    · refine br_f c2 ⟨pp_v HP, ?_⟩
      by_cases c3 : nk p < F
      · rw [show pn_C J (nk p) F = 3 from (if_pos c1).trans ((if_neg c2).trans (if_pos c3))] at h
        exact br_t c3 (xa_136 hv hM h)
      · rw [show pn_C J (nk p) F = 4 from (if_pos c1).trans ((if_neg c2).trans (if_neg c3))] at h
        exact br_f c3 (xa_136 hv hM h)
  · rw [show pn_C J (nk p) F = 4 from if_neg c1] at h
    exact br_f c1 (xa_136 hv hM h)
theorem xa_class (HP : pn_P P p) (hM : ∀ f, f < 7 → ih f = M f) (h : ∀ vd' ro', (∀ k, k < 4 → ro' k = pn_Q (pn_J lo hi wa ic p M) M (pn_C (pn_J lo hi wa ic p M) (nk p) F) k) → post (C, T, F, K, pn_C (pn_J lo hi wa ic p M) (nk p) F, st, rs, ti, ni, cr, hc, nk, ms, ei, us, dn, sa, fi, lo, hi, wa, ic, se, lc, rm, w, q, ih, vd', ro', no)) : wpX_classify post (C, T, F, K, rc, st, rs, ti, ni, cr, hc, nk, ms, ei, us, dn, sa, fi, lo, hi, wa, ic, se, lc, rm, w, q, ih, vd, ro, no) P := by
  unfold wpX_classify
  have z : (0 : Int32) = 0 ∨ (0 : Int32) = 1 := Or.inl rfl
  have a0 := pn_o2_01 (j := (pn_J lo hi wa ic p M) 0) z
  have a1 := pn_o2_01 (j := (pn_J lo hi wa ic p M) 1) a0
  have a2 := pn_o2_01 (j := (pn_J lo hi wa ic p M) 2) a1
  have b0 := pn_o3_01 (j := (pn_J lo hi wa ic p M) 0) z
  have b1 := pn_o3_01 (j := (pn_J lo hi wa ic p M) 1) b0
  have b2 := pn_o3_01 (j := (pn_J lo hi wa ic p M) 2) b1
  refine ⟨5, xs_c7 HP (k := 0) hM (by decide) z z (xs_c7 HP (k := 1) hM (by decide) a0 b0 (xs_c7 HP (k := 2) hM (by decide) a1 b1 (xs_c7 HP (k := 3) hM (by decide) a2 b2 (xe_c7 (J := (pn_J lo hi wa ic p M)) HP hM ?_ (fun ro' hr => h _ ro' hr)))))⟩
  intro k hk
  rcases pp_k4 hk with rfl | rfl | rfl | rfl <;> rfl
end CX
section CY
variable {C T F K : Int32} {st rs ti ni cr hc nk ms ei us dn sa fi lo hi wa ic se lc rm w q mg ou rp ca sg : Nat → Int32} {P : Int32} {p : Nat} {post : Int32 → SY → Prop}
variable {M : Nat → Int32}
def pn_CI (J : Nat → Int32) (k : Nat) (ca sg : Nat → Int32) : Prop := ∀ j, j < k → ca j = pn_ck (J j) ∧ (¬ J j < 0 → sg j = J j)
theorem pn_CI_s {J : Nat → Int32} {k : Nat} {ca sg ca' sg' : Nat → Int32} (I : pn_CI J k ca sg) (h1 : ca' k = pn_ck (J k)) (h2 : ∀ j, j ≠ k → ca' j = ca j) (h3 : ¬ J k < 0 → sg' k = J k) (h4 : ∀ j, j ≠ k → sg' j = sg j) : pn_CI J (k + 1) ca' sg' := by
  intro j hj
  by_cases e : j = k
  · subst e; exact ⟨h1, h3⟩
  · have := I j (by omega)
    rw [h2 j e, h4 j e]; exact this
theorem ys_c7 (HP : pn_P P p) (VO : pn_VO lo hi ic) {n k : Nat} {y2 y3 : Int32} (hM : ∀ f, f < 7 → mg f = M f) (hk : k < 4) (I : pn_CI (pn_J lo hi wa ic p M) k ca sg) (h : ∀ ca' sg', pn_CI (pn_J lo hi wa ic p M) (k + 1) ca' sg' → wY_classify_7 post P C T F K n (pn_o2 y2 ((pn_J lo hi wa ic p M) k)) (pn_o3 y3 ((pn_J lo hi wa ic p M) k)) (nI (k + 1)) (pn_I st rs ti ni cr hc nk ms ei us dn sa fi) (pn_O lo hi wa ic se lc rm) w q mg ou rp ca' sg') : wY_classify_7 post P C T F K (n + 1) y2 y3 (nI k) (pn_I st rs ti ni cr hc nk ms ei us dn sa fi) (pn_O lo hi wa ic se lc rm) w q mg ou rp ca sg := by
  have hp := pp_lt HP
  obtain ⟨⟨vl, vh, vm⟩, vi⟩ := VO (p * 4 + k) (by omega)
  have vk : vp_in (nI k) 4 := vp_in_nI hk (by decide)
  refine br_f (pp_g4 hk) ⟨vk, ?_⟩
  rw [nI_clamp (n := k) (by omega), pp_3 hk, hM (3 + k) (by omega)]
  refine nm_e ⟨pp_v3 hk, nm_e ?_⟩
  intro x3 e3
  have o0 : (x3).toNatClampNeg = (p * 4 + k) * 7 + 0 := by rw [e3]; exact pp_o0 HP hk
  have v0 : vp_in (x3) 56 := by rw [e3]; exact pp_vo0 HP hk
  have o1 : (x3 + 1).toNatClampNeg = (p * 4 + k) * 7 + 1 := by rw [e3]; exact pp_o1 HP hk
  have v1 : vp_in (x3 + 1) 56 := by rw [e3]; exact pp_vo1 HP hk
  have o2 : (x3 + 2).toNatClampNeg = (p * 4 + k) * 7 + 2 := by rw [e3]; exact pp_o2 HP hk
  have v2 : vp_in (x3 + 2) 56 := by rw [e3]; exact pp_vo2 HP hk
  have o3 : (x3 + 3).toNatClampNeg = (p * 4 + k) * 7 + 3 := by rw [e3]; exact pp_o3 HP hk
  have v3 : vp_in (x3 + 3) 56 := by rw [e3]; exact pp_vo3 HP hk
  rw [o0, o1, o2, o3, pn_O_a0, pn_O_a1, pn_O_a2, pn_O_a3]
  refine ⟨v0, nm_e ⟨v1, nm_e ⟨v2, nm_e ?_⟩⟩⟩
  have fin : ∀ (j : Int32) (ca' sg' : Nat → Int32), (pn_J lo hi wa ic p M) k = j → ca' k = pn_ck j → (∀ i, i ≠ k → ca' i = ca i) → (¬ j < 0 → sg' k = j) → (∀ i, i ≠ k → sg' i = sg i) → wY_classify_7 post P C T F K n (pn_o2 y2 j) (pn_o3 y3 j) (nI (k + 1)) (pn_I st rs ti ni cr hc nk ms ei us dn sa fi) (pn_O lo hi wa ic se lc rm) w q mg ou rp ca' sg' := by
    intro j ca' sg' ej h1 h2 h3 h4
    have hh := h ca' sg' (pn_CI_s I (by rw [ej]; exact h1) h2 (by rw [ej]; exact h3) h4)
    rw [ej] at hh
    exact hh
  have nk1 : ∀ i, i ≠ k → ∀ x : Int32, upd ca k x i = ca i := fun i e x => pn_ne _ _ e
  have nonneg : ∀ j : Int32, 0 ≤ j → (¬ j < 0) ∧ (¬ j = -2) := by
    intro j hj
    have a : ¬ j < 0 := Int32.not_lt.mpr hj
    refine ⟨a, fun e => ?_⟩
    rw [e] at a
    exact a (by decide)
  have nak : ∀ (j : Int32), 0 ≤ j → (pn_J lo hi wa ic p M) k = j → wY_classify_7 post P C T F K n y2 1 (nI (k + 1)) (pn_I st rs ti ni cr hc nk ms ei us dn sa fi) (pn_O lo hi wa ic se lc rm) w q mg ou rp (upd (upd ca k 0) k 1) (upd sg k j) := by
    intro j hj ej
    obtain ⟨n1, n2⟩ := nonneg j hj
    have hh := fin j (upd (upd ca k 0) k 1) (upd sg k j) ej (by rw [pn_at]; unfold pn_ck; rw [if_neg n2, if_neg n1]) (fun i e => by rw [pn_ne _ _ e, pn_ne _ _ e]) (fun _ => pn_at _ _ _) (fun i e => pn_ne _ _ e)
    rw [show pn_o2 y2 j = y2 from if_neg n2, show pn_o3 y3 j = 1 from if_neg n1] at hh
    exact hh
  have acc : (pn_J lo hi wa ic p M) k = -1 → wY_classify_7 post P C T F K n y2 y3 (nI (k + 1)) (pn_I st rs ti ni cr hc nk ms ei us dn sa fi) (pn_O lo hi wa ic se lc rm) w q mg ou rp (upd ca k 0) sg := by
    intro ej
    have hh := fin (-1) (upd ca k 0) sg ej (by rw [pn_at]; decide) (fun i e => pn_ne _ _ e) (fun z => absurd (by decide) z) (fun _ _ => rfl)
    rw [show pn_o2 y2 (-1) = y2 from if_neg (by decide), show pn_o3 y3 (-1) = y3 from if_pos (by decide)] at hh
    exact hh
  by_cases c1 : M (3 + k) = -1
  · have ej : (pn_J lo hi wa ic p M) k = -1 := if_pos c1
    refine br_t c1 ⟨vk, ?_⟩
    rw [pn_uu]
    exact nm_e (nm_r (nI_1 k) (acc ej))
  refine br_f c1 ?_
  have J1 := (if_neg c1 : (pn_J lo hi wa ic p M) k = _)
  by_cases c2 : lo (p * 4 + k) ≤ hi (p * 4 + k)
  · have J2 := J1.trans (if_pos c2)
    refine br_t c2 ?_
    by_cases c3 : lo (p * 4 + k) ≤ M (3 + k)
    · have J3 := J2.trans (if_pos c3)
      refine br_t c3 ?_
      by_cases c4 : M (3 + k) ≤ hi (p * 4 + k)
      · have J4 := J3.trans (if_pos c4)
        refine br_t c4 ?_
        have k2 : (nI k = 2) ↔ k = 2 := nI_eq (a := k) (b := 2) (by omega) (by decide)
        by_cases c5 : k = 2
        · have J5 := J4.trans (if_pos c5)
          refine br_t (k2.mpr c5) ⟨v3, ?_⟩
          rcases vi with vi | vi
          · have J6 := J5.trans (if_pos vi)
            exact br_f (by rw [vi]; decide) (nm_r (nI_1 k) (acc J6))
          · have J6 := J5.trans (if_neg (by rw [vi]; decide))
            refine br_t vi ?_
            by_cases c7 : M (3 + k) = wa (p * 4 + k)
            · have J7 := J6.trans (if_pos c7)
              refine br_t c7 ⟨vk, nm_e ?_⟩
              by_cases c8 : wa (p * 4 + k) - 1 < lo (p * 4 + k)
              · have J8 := J7.trans (if_pos c8)
                refine br_t c8 ?_
                by_cases c9 : hi (p * 4 + k) < wa (p * 4 + k) + 1
                · have J9 := J8.trans (if_pos c9)
                  exact br_t c9 ⟨vk, nm_e (nm_r (nI_1 k) (nak _ (Int32.le_trans vl (c7 ▸ c3)) J9))⟩
                · have J9 := J8.trans (if_neg c9)
                  exact br_f c9 ⟨vk, nm_e (nm_r (nI_1 k) (nak _ (pn_inc vl vm (c7 ▸ c3) (c7 ▸ c4)) J9))⟩
              · have J8 := J7.trans (if_neg c8)
                exact br_f c8 ⟨vk, nm_e (nm_r (nI_1 k) (nak _ (Int32.le_trans vl (Int32.not_lt.mp c8)) J8))⟩
            · have J7 := J6.trans (if_neg c7)
              exact br_f c7 (nm_r (nI_1 k) (acc J7))
        · have J5 := J4.trans (if_neg c5)
          exact br_f (fun z => c5 (k2.mp z)) (nm_r (nI_1 k) (acc J5))
      · have J4 := J3.trans (if_neg c4)
        exact br_f c4 ⟨vk, nm_e ⟨vk, nm_e (nm_r (nI_1 k) (nak _ vh J4))⟩⟩
    · have J3 := J2.trans (if_neg c3)
      exact br_f c3 ⟨vk, nm_e ⟨vk, nm_e (nm_r (nI_1 k) (nak _ vl J3))⟩⟩
  · have J2 := J1.trans (if_neg c2)
    refine br_f c2 ⟨vk, nm_e (nm_r (nI_1 k) ?_)⟩
    have hh := fin (-2) (upd (upd ca k 0) k 2) sg J2 (by rw [pn_at]; decide) (fun i e => by rw [pn_ne _ _ e, pn_ne _ _ e]) (fun z => absurd (by decide) z) (fun _ _ => rfl)
    rw [show pn_o2 y2 (-2) = 1 from if_pos rfl, show pn_o3 y3 (-2) = y3 from if_pos (by decide)] at hh
    exact hh
theorem ys_404 {n k : Nat} {z c r j m : Int32} (hk : k < 4) (hm : mg (3 + k) = m) (hca : ca k = pn_ck j) (hsg : ¬ j < 0 → sg k = j) (hrp : rp (3 + k) = -1) (hr : r = 0) (hR2 : ¬ j = -2) (hc1 : (z = 0 ∧ c = 3) ∨ (¬ z = 0 ∧ c = 4)) (h : wY_classify_404 post z C T F K n (nI (k + 1)) (pn_I st rs ti ni cr hc nk ms ei us dn sa fi) (pn_O lo hi wa ic se lc rm) w q mg ou (upd rp (3 + k) (pn_Qv c r j m)) ca sg) : wY_classify_404 post z C T F K (n + 1) (nI k) (pn_I st rs ti ni cr hc nk ms ei us dn sa fi) (pn_O lo hi wa ic se lc rm) w q mg ou rp ca sg := by
  have vk : vp_in (nI k) 4 := vp_in_nI hk (by decide)
  refine br_f (pp_g4 hk) ⟨vk, ?_⟩
  rw [pp_3 hk, nI_clamp (n := k) (by omega), hca, hm]
  have n2 : ¬ c = 2 := by rcases hc1 with ⟨_, e⟩ | ⟨_, e⟩ <;> (rw [e]; decide)
  by_cases c1 : j < 0
  · rw [show pn_Qv c r j m = -1 from (if_neg n2).trans ((if_pos hr).trans (if_pos c1)), pn_self rp _ _ hrp] at h
    refine br_f ?_ (nm_r (nI_1 k) h)
    unfold pn_ck
    rw [if_neg hR2, if_pos c1]; decide
  · refine br_t (by unfold pn_ck; rw [if_neg hR2, if_neg c1]) ?_
    rcases hc1 with ⟨z0, e⟩ | ⟨z0, e⟩
    · rw [show pn_Qv c r j m = j from (if_neg n2).trans ((if_pos hr).trans ((if_neg c1).trans (if_pos e)))] at h
      refine br_t z0 ⟨vk, pp_v3 hk, ?_⟩
      rw [hsg c1]
      exact nm_e (nm_r (nI_1 k) h)
    · rw [show pn_Qv c r j m = m from (if_neg n2).trans ((if_pos hr).trans ((if_neg c1).trans (if_neg (by rw [e]; decide))))] at h
      exact br_f z0 ⟨pp_v3 hk, pp_v3 hk, nm_e (nm_r (nI_1 k) h)⟩
theorem ys_310 {n k : Nat} {r j m : Int32} (hk : k < 4) (hm : mg (3 + k) = m) (hca : ca k = pn_ck j) (hrp : rp (3 + k) = -1) (hr : ¬ r = 0) (h : wY_classify_310 post C T F K n (nI (k + 1)) (pn_I st rs ti ni cr hc nk ms ei us dn sa fi) (pn_O lo hi wa ic se lc rm) w q mg ou (upd rp (3 + k) (pn_Qv 4 r j m)) ca sg) : wY_classify_310 post C T F K (n + 1) (nI k) (pn_I st rs ti ni cr hc nk ms ei us dn sa fi) (pn_O lo hi wa ic se lc rm) w q mg ou rp ca sg := by
  have vk : vp_in (nI k) 4 := vp_in_nI hk (by decide)
  refine br_f (pp_g4 hk) ⟨vk, ?_⟩
  rw [pp_3 hk, nI_clamp (n := k) (by omega), hca, hm]
  have n2 : ¬ (4 : Int32) = 2 := by decide
  by_cases c1 : j = -2
  · rw [show pn_Qv 4 r j m = m from (if_neg n2).trans ((if_neg hr).trans ((if_pos c1).trans (if_neg (by decide))))] at h
    exact br_t (if_pos c1) ⟨pp_v3 hk, pp_v3 hk, nm_e (nm_r (nI_1 k) h)⟩
  · rw [show pn_Qv 4 r j m = -1 from (if_neg n2).trans ((if_neg hr).trans (if_neg c1)), pn_self rp _ _ hrp] at h
    refine br_f ?_ (nm_r (nI_1 k) h)
    unfold pn_ck
    rw [if_neg c1]
    by_cases c2 : j < 0
    · rw [if_pos c2]; decide
    · rw [if_neg c2]; decide
theorem ys_274 {n k : Nat} {y2 y3 : Int32} (hk : k < 4) (h : wY_classify_274 post P y2 y3 C T F K n (nI (k + 1)) (pn_I st rs ti ni cr hc nk ms ei us dn sa fi) (pn_O lo hi wa ic se lc rm) w q mg ou (upd rp (3 + k) (-1)) ca sg) : wY_classify_274 post P y2 y3 C T F K (n + 1) (nI k) (pn_I st rs ti ni cr hc nk ms ei us dn sa fi) (pn_O lo hi wa ic se lc rm) w q mg ou rp ca sg := by
  refine br_f (pp_g4 hk) ⟨pp_v3 hk, ?_⟩
  rw [pp_3 hk]
  exact nm_e (nm_r (nI_1 k) h)
theorem pn_Rj {J : Nat → Int32} (h : pn_R J = 0) : ∀ k, k < 4 → ¬ J k = -2 := by
  have s : ∀ {x j : Int32}, pn_o2 x j = 0 → x = 0 ∧ ¬ j = -2 := by
    intro x j e
    unfold pn_o2 at e
    by_cases c : j = -2
    · rw [if_pos c] at e; exact absurd e (by decide)
    · rw [if_neg c] at e; exact ⟨e, c⟩
  unfold pn_R at h
  obtain ⟨h3, j3⟩ := s h
  obtain ⟨h2, j2⟩ := s h3
  obtain ⟨h1, j1⟩ := s h2
  obtain ⟨_, j0⟩ := s h1
  intro k hk
  rcases pp_k4 hk with rfl | rfl | rfl | rfl
  · exact j0
  · exact j1
  · exact j2
  · exact j3
theorem ye_274 (HP : pn_P P p) {n : Nat} {J : Nat → Int32} {M1 : Int32} (hM : ∀ f, f < 7 → mg f = M f) (I : pn_CI J 4 ca sg) (r1 : rp 1 = M1) (r2 : rp 2 = 0) (hr : ∀ k, k < 4 → rp (3 + k) = -1) (h1 : pn_R J = 0 → pn_N J = 0 → post 1 (C, T, F, K, pn_I st rs ti ni cr hc nk ms ei us dn sa fi, pn_O lo hi wa ic se lc rm, w, q, mg, ou, rp, ca, sg)) (h0 : ¬ (pn_R J = 0 ∧ pn_N J = 0) → ∀ rp', rp' 0 = pn_C J (nk p) F → rp' 1 = M1 → rp' 2 = 0 → (∀ k, k < 4 → rp' (3 + k) = pn_Q J M (pn_C J (nk p) F) k) → post 0 (C, T, F, K, pn_I st rs ti ni cr hc nk ms ei us dn sa fi, pn_O lo hi wa ic se lc rm, w, q, mg, ou, rp', ca, sg)) : wY_classify_274 post P (pn_R J) (pn_N J) C T F K (n + 1) (nI 4) (pn_I st rs ti ni cr hc nk ms ei us dn sa fi) (pn_O lo hi wa ic se lc rm) w q mg ou rp ca sg := by
  refine br_t pp_44 ?_
  have hm : ∀ k, k < 4 → mg (3 + k) = M (3 + k) := fun k hk => hM (3 + k) (by omega)
  by_cases c1 : pn_R J = 0
  · refine br_t c1 ?_
    have jn := pn_Rj c1
    by_cases c2 : pn_N J = 0
    · exact br_t c2 (h1 c1 c2)
    · have hh := h0 (fun z => c2 z.2)
      refine br_f c2 ⟨pp_vi6 HP, ?_⟩
      rw [pp_i6 HP, pn_I_a6]
      by_cases c3 : nk p < F
      · rw [show pn_C J (nk p) F = 3 from (if_pos c1).trans ((if_neg c2).trans (if_pos c3))] at hh
        refine br_t c3 (br_t rfl (nm_e ⟨5, ?_⟩))
        refine ys_404 (k := 0) (by decide) (c := 3) (r := pn_R J) (j := J 0) (m := M (3 + 0)) (hm 0 (by decide)) (I 0 (by decide)).1 (I 0 (by decide)).2 (hr 0 (by decide)) c1 (jn 0 (by decide)) (Or.inl ⟨rfl, rfl⟩) (ys_404 (k := 1) (by decide) (c := 3) (r := pn_R J) (j := J 1) (m := M (3 + 1)) (hm 1 (by decide)) (I 1 (by decide)).1 (I 1 (by decide)).2 (hr 1 (by decide)) c1 (jn 1 (by decide)) (Or.inl ⟨rfl, rfl⟩) (ys_404 (k := 2) (by decide) (c := 3) (r := pn_R J) (j := J 2) (m := M (3 + 2)) (hm 2 (by decide)) (I 2 (by decide)).1 (I 2 (by decide)).2 (hr 2 (by decide)) c1 (jn 2 (by decide)) (Or.inl ⟨rfl, rfl⟩) (ys_404 (k := 3) (by decide) (c := 3) (r := pn_R J) (j := J 3) (m := M (3 + 3)) (hm 3 (by decide)) (I 3 (by decide)).1 (I 3 (by decide)).2 (hr 3 (by decide)) c1 (jn 3 (by decide)) (Or.inl ⟨rfl, rfl⟩) (br_t pp_44 (hh _ rfl r1 r2 ?_)))))
        intro k hk
        rcases pp_k4 hk with rfl | rfl | rfl | rfl <;> rfl
      · rw [show pn_C J (nk p) F = 4 from (if_pos c1).trans ((if_neg c2).trans (if_neg c3))] at hh
        refine br_f c3 (br_f (by decide) (nm_e ⟨5, ?_⟩))
        refine ys_404 (k := 0) (by decide) (c := 4) (r := pn_R J) (j := J 0) (m := M (3 + 0)) (hm 0 (by decide)) (I 0 (by decide)).1 (I 0 (by decide)).2 (hr 0 (by decide)) c1 (jn 0 (by decide)) (Or.inr ⟨by decide, rfl⟩) (ys_404 (k := 1) (by decide) (c := 4) (r := pn_R J) (j := J 1) (m := M (3 + 1)) (hm 1 (by decide)) (I 1 (by decide)).1 (I 1 (by decide)).2 (hr 1 (by decide)) c1 (jn 1 (by decide)) (Or.inr ⟨by decide, rfl⟩) (ys_404 (k := 2) (by decide) (c := 4) (r := pn_R J) (j := J 2) (m := M (3 + 2)) (hm 2 (by decide)) (I 2 (by decide)).1 (I 2 (by decide)).2 (hr 2 (by decide)) c1 (jn 2 (by decide)) (Or.inr ⟨by decide, rfl⟩) (ys_404 (k := 3) (by decide) (c := 4) (r := pn_R J) (j := J 3) (m := M (3 + 3)) (hm 3 (by decide)) (I 3 (by decide)).1 (I 3 (by decide)).2 (hr 3 (by decide)) c1 (jn 3 (by decide)) (Or.inr ⟨by decide, rfl⟩) (br_t pp_44 (hh _ rfl r1 r2 ?_)))))
        intro k hk
        rcases pp_k4 hk with rfl | rfl | rfl | rfl <;> rfl
  · have hh := h0 (fun z => c1 z.1)
    rw [show pn_C J (nk p) F = 4 from if_neg c1] at hh
    refine br_f c1 (nm_e ⟨5, ?_⟩)
    refine ys_310 (k := 0) (by decide) (r := pn_R J) (j := J 0) (m := M (3 + 0)) (hm 0 (by decide)) (I 0 (by decide)).1 (hr 0 (by decide)) c1 (ys_310 (k := 1) (by decide) (r := pn_R J) (j := J 1) (m := M (3 + 1)) (hm 1 (by decide)) (I 1 (by decide)).1 (hr 1 (by decide)) c1 (ys_310 (k := 2) (by decide) (r := pn_R J) (j := J 2) (m := M (3 + 2)) (hm 2 (by decide)) (I 2 (by decide)).1 (hr 2 (by decide)) c1 (ys_310 (k := 3) (by decide) (r := pn_R J) (j := J 3) (m := M (3 + 3)) (hm 3 (by decide)) (I 3 (by decide)).1 (hr 3 (by decide)) c1 (br_t pp_44 (hh _ rfl r1 r2 ?_)))))
    intro k hk
    rcases pp_k4 hk with rfl | rfl | rfl | rfl <;> rfl
theorem ya_class (HP : pn_P P p) (VO : pn_VO lo hi ic) (hM : ∀ f, f < 7 → mg f = M f) (h1 : pn_R (pn_J lo hi wa ic p M) = 0 → pn_N (pn_J lo hi wa ic p M) = 0 → ∀ rp' ca' sg', post 1 (C, T, F, K, pn_I st rs ti ni cr hc nk ms ei us dn sa fi, pn_O lo hi wa ic se lc rm, w, q, mg, ou, rp', ca', sg')) (h0 : ¬ (pn_R (pn_J lo hi wa ic p M) = 0 ∧ pn_N (pn_J lo hi wa ic p M) = 0) → ∀ rp' ca' sg', rp' 0 = pn_C (pn_J lo hi wa ic p M) (nk p) F → rp' 1 = M 1 → rp' 2 = 0 → (∀ k, k < 4 → rp' (3 + k) = pn_Q (pn_J lo hi wa ic p M) M (pn_C (pn_J lo hi wa ic p M) (nk p) F) k) → post 0 (C, T, F, K, pn_I st rs ti ni cr hc nk ms ei us dn sa fi, pn_O lo hi wa ic se lc rm, w, q, mg, ou, rp', ca', sg')) : wpY_classify post (C, T, F, K, pn_I st rs ti ni cr hc nk ms ei us dn sa fi, pn_O lo hi wa ic se lc rm, w, q, mg, ou, rp, ca, sg) P := by
  unfold wpY_classify
  have z : pn_CI (pn_J lo hi wa ic p M) 0 ca sg := fun j hj => absurd hj (Nat.not_lt_zero j)
  refine ⟨5, ys_c7 HP VO (k := 0) hM (by decide) z (fun c1 s1 I1 => ys_c7 HP VO (k := 1) hM (by decide) I1 (fun c2 s2 I2 => ys_c7 HP VO (k := 2) hM (by decide) I2 (fun c3 s3 I3 => ys_c7 HP VO (k := 3) hM (by decide) I3 (fun c4 s4 I4 => ?_))))⟩
  refine br_t pp_44 ?_
  rw [hM 1 (by decide)]
  refine nm_e (nm_e ⟨5, ?_⟩)
  refine ys_274 (k := 0) (by decide) (ys_274 (k := 1) (by decide) (ys_274 (k := 2) (by decide) (ys_274 (k := 3) (by decide) (ye_274 (J := (pn_J lo hi wa ic p M)) HP hM I4 rfl rfl ?_ (fun a b => h1 a b _ c4 s4) (fun a rp' b1 b2 b3 b4 => h0 a rp' c4 s4 b1 b2 b3 b4)))))
  intro k hk
  rcases pp_k4 hk with rfl | rfl | rfl | rfl <;> rfl
end CY
