theorem pi_o0 {i : Nat} (hi8 : i < 8) : (nI (i * 7)).toNatClampNeg = i * 7 + 0 := nI_clamp (by omega)
theorem pi_v0 {i : Nat} (hi8 : i < 8) : vp_in (nI (i * 7)) 56 := vp_in_nI (by omega) (by decide)
theorem pi_o1 {i : Nat} (hi8 : i < 8) : (nI (i * 7) + 1).toNatClampNeg = i * 7 + 1 := by
  rw [show nI (i * 7) + 1 = nI (i * 7 + 1) from nI_add _ 1]; exact nI_clamp (by omega)
theorem pi_v1 {i : Nat} (hi8 : i < 8) : vp_in (nI (i * 7) + 1) 56 := by
  rw [show nI (i * 7) + 1 = nI (i * 7 + 1) from nI_add _ 1]; exact vp_in_nI (by omega) (by decide)
theorem pi_o2 {i : Nat} (hi8 : i < 8) : (nI (i * 7) + 2).toNatClampNeg = i * 7 + 2 := by
  rw [show nI (i * 7) + 2 = nI (i * 7 + 2) from nI_add _ 2]; exact nI_clamp (by omega)
theorem pi_v2 {i : Nat} (hi8 : i < 8) : vp_in (nI (i * 7) + 2) 56 := by
  rw [show nI (i * 7) + 2 = nI (i * 7 + 2) from nI_add _ 2]; exact vp_in_nI (by omega) (by decide)
theorem pi_o3 {i : Nat} (hi8 : i < 8) : (nI (i * 7) + 3).toNatClampNeg = i * 7 + 3 := by
  rw [show nI (i * 7) + 3 = nI (i * 7 + 3) from nI_add _ 3]; exact nI_clamp (by omega)
theorem pi_v3 {i : Nat} (hi8 : i < 8) : vp_in (nI (i * 7) + 3) 56 := by
  rw [show nI (i * 7) + 3 = nI (i * 7 + 3) from nI_add _ 3]; exact vp_in_nI (by omega) (by decide)
theorem pi_o4 {i : Nat} (hi8 : i < 8) : (nI (i * 7) + 4).toNatClampNeg = i * 7 + 4 := by
  rw [show nI (i * 7) + 4 = nI (i * 7 + 4) from nI_add _ 4]; exact nI_clamp (by omega)
theorem pi_v4 {i : Nat} (hi8 : i < 8) : vp_in (nI (i * 7) + 4) 56 := by
  rw [show nI (i * 7) + 4 = nI (i * 7 + 4) from nI_add _ 4]; exact vp_in_nI (by omega) (by decide)
theorem pi_o5 {i : Nat} (hi8 : i < 8) : (nI (i * 7) + 5).toNatClampNeg = i * 7 + 5 := by
  rw [show nI (i * 7) + 5 = nI (i * 7 + 5) from nI_add _ 5]; exact nI_clamp (by omega)
theorem pi_v5 {i : Nat} (hi8 : i < 8) : vp_in (nI (i * 7) + 5) 56 := by
  rw [show nI (i * 7) + 5 = nI (i * 7 + 5) from nI_add _ 5]; exact vp_in_nI (by omega) (by decide)
theorem pi_o6 {i : Nat} (hi8 : i < 8) : (nI (i * 7) + 6).toNatClampNeg = i * 7 + 6 := by
  rw [show nI (i * 7) + 6 = nI (i * 7 + 6) from nI_add _ 6]; exact nI_clamp (by omega)
theorem pi_v6 {i : Nat} (hi8 : i < 8) : vp_in (nI (i * 7) + 6) 56 := by
  rw [show nI (i * 7) + 6 = nI (i * 7 + 6) from nI_add _ 6]; exact vp_in_nI (by omega) (by decide)
def pn_v4 (a b c d : Int32) : Nat → Int32 := fun k => match k with | 0 => a | 1 => b | 2 => c | _ => d
section IX
variable {C T F K rc : Int32} {st rs ti ni cr hc nk ms ei us dn sa fi lo hi wa ic se lc rm w q ih vd ro no : Nat → Int32} {P : Int32} {p : Nat} {post : SX → Prop}
variable {N : Int32}
theorem xa_make (HP : pn_P P p) {k : Nat} (hk : k < 4) {a b : Int32} (h : post (C, T, F, K, rc, st, rs, ti, ni, cr, hc, nk, ms, ei, us, dn, sa, fi, upd lo (p * 4 + k) a, upd hi (p * 4 + k) b, wa, ic, upd se (p * 4 + k) (-1), upd lc (p * 4 + k) (-1), upd rm (p * 4 + k) (-1), w, q, ih, vd, ro, no)) : wpX_makeOption post (C, T, F, K, rc, st, rs, ti, ni, cr, hc, nk, ms, ei, us, dn, sa, fi, lo, hi, wa, ic, se, lc, rm, w, q, ih, vd, ro, no) P (nI k) a b := by
  unfold wpX_makeOption
  intro x5 e5
  have ex : x5.toNatClampNeg = p * 4 + k := by rw [e5, pp_4 HP hk]
  have vx : vp_in x5 8 := by rw [e5]; exact pp_v4 HP hk
  rw [ex]
  exact ⟨vx, nm_e ⟨vx, nm_e ⟨vx, nm_e ⟨vx, nm_e ⟨vx, nm_e h⟩⟩⟩⟩⟩
theorem xs_263 (HP : pn_P P p) (eN : P + 1 = N) {n : Nat} (h : wX_init_263 post n N C T F K rc st rs ti ni cr hc (upd nk p 0) ms ei us dn sa fi (pn_4 lo (p * 4) (pn_v4 64 1 1 0)) (pn_4 hi (p * 4) (pn_v4 1500 0 65535 15)) (pn_4 wa (p * 4) (pn_hi (pn_4 hi (p * 4) (pn_v4 1500 0 65535 15)) p)) (pn_4 ic (p * 4) (pn_in (pn_4 lo (p * 4) (pn_v4 64 1 1 0)) (pn_4 hi (p * 4) (pn_v4 1500 0 65535 15)) p)) (pn_4 se (p * 4) (pn_v4 (-1) (-1) (-1) (-1))) (pn_4 lc (p * 4) (pn_v4 (-1) (-1) (-1) (-1))) (pn_4 rm (p * 4) (pn_v4 (-1) (-1) (-1) (-1))) w q ih vd ro no) : wX_init_263 post (n + 1) P C T F K rc st rs ti ni cr hc nk ms ei us dn sa fi lo hi wa ic se lc rm w q ih vd ro no := by
  refine br_f (pp_n2 HP) ?_
  refine xa_make HP (k := 0) (by decide) ?_
  refine xa_make HP (k := 1) (by decide) ?_
  refine xa_make HP (k := 2) (by decide) ?_
  refine xa_make HP (k := 3) (by decide) ?_
  refine xa_start HP ?_
  exact nm_r eN h
theorem xs_240 {n k : Nat} (hk : k < 4) (h : wX_init_240 post C T F K rc n (nI (k + 1)) st rs ti ni cr hc nk ms ei us dn sa fi lo hi wa ic se lc rm w q ih vd ro (upd no k (-1))) : wX_init_240 post C T F K rc (n + 1) (nI k) st rs ti ni cr hc nk ms ei us dn sa fi lo hi wa ic se lc rm w q ih vd ro no := by
  refine br_f (pp_g4 hk) ⟨vp_in_nI hk (by decide), ?_⟩
  rw [nI_clamp (n := k) (by omega)]
  exact nm_e (nm_r (nI_1 k) h)
theorem xa_init {k0 k1 k2 k3 : Int32} (h : post (pn_cl k0 1 10, pn_cl k1 1 4, pn_cl k2 1 5, pn_cl k3 1 4, 0, (fun _ => 0 : Nat → Int32), (fun _ => 0 : Nat → Int32), (fun _ => 0 : Nat → Int32), (fun _ => 0 : Nat → Int32), (fun _ => 0 : Nat → Int32), (fun _ => 0 : Nat → Int32), upd (upd ((fun _ => 0 : Nat → Int32)) 0 0) 1 0, (fun _ => 0 : Nat → Int32), (fun _ => 0 : Nat → Int32), (fun _ => 0 : Nat → Int32), (fun _ => 0 : Nat → Int32), (fun _ => 0 : Nat → Int32), (fun _ => 0 : Nat → Int32), pn_4 (pn_4 ((fun _ => 0 : Nat → Int32)) (0 * 4) (pn_v4 64 1 1 0)) (1 * 4) (pn_v4 64 1 1 0), pn_4 (pn_4 ((fun _ => 0 : Nat → Int32)) (0 * 4) (pn_v4 1500 0 65535 15)) (1 * 4) (pn_v4 1500 0 65535 15), pn_4 (pn_4 ((fun _ => 0 : Nat → Int32)) (0 * 4) (pn_hi (pn_4 ((fun _ => 0 : Nat → Int32)) (0 * 4) (pn_v4 1500 0 65535 15)) 0)) (1 * 4) (pn_hi (pn_4 (pn_4 ((fun _ => 0 : Nat → Int32)) (0 * 4) (pn_v4 1500 0 65535 15)) (1 * 4) (pn_v4 1500 0 65535 15)) 1), pn_4 (pn_4 ((fun _ => 0 : Nat → Int32)) (0 * 4) (pn_in (pn_4 ((fun _ => 0 : Nat → Int32)) (0 * 4) (pn_v4 64 1 1 0)) (pn_4 ((fun _ => 0 : Nat → Int32)) (0 * 4) (pn_v4 1500 0 65535 15)) 0)) (1 * 4) (pn_in (pn_4 (pn_4 ((fun _ => 0 : Nat → Int32)) (0 * 4) (pn_v4 64 1 1 0)) (1 * 4) (pn_v4 64 1 1 0)) (pn_4 (pn_4 ((fun _ => 0 : Nat → Int32)) (0 * 4) (pn_v4 1500 0 65535 15)) (1 * 4) (pn_v4 1500 0 65535 15)) 1), pn_4 (pn_4 ((fun _ => 0 : Nat → Int32)) (0 * 4) (pn_v4 (-1) (-1) (-1) (-1))) (1 * 4) (pn_v4 (-1) (-1) (-1) (-1)), pn_4 (pn_4 ((fun _ => 0 : Nat → Int32)) (0 * 4) (pn_v4 (-1) (-1) (-1) (-1))) (1 * 4) (pn_v4 (-1) (-1) (-1) (-1)), pn_4 (pn_4 ((fun _ => 0 : Nat → Int32)) (0 * 4) (pn_v4 (-1) (-1) (-1) (-1))) (1 * 4) (pn_v4 (-1) (-1) (-1) (-1)), (fun _ => 0 : Nat → Int32), (fun _ => 0 : Nat → Int32), (fun _ => 0 : Nat → Int32), (fun _ => 0 : Nat → Int32), (fun _ => 0 : Nat → Int32), upd (upd (upd (upd (fun _ => 0 : Nat → Int32) 0 (-1)) 1 (-1)) 2 (-1)) 3 (-1))) : wpX_init post k0 k1 k2 k3 := by
  unfold wpX_init
  refine xa_clamp ?_
  refine xa_clamp ?_
  refine xa_clamp ?_
  refine xa_clamp ?_
  refine ⟨5, xs_240 (k := 0) (by decide) (xs_240 (k := 1) (by decide) (xs_240 (k := 2) (by decide) (xs_240 (k := 3) (by decide) (br_t pp_44 ⟨3, ?_⟩))))⟩
  exact xs_263 pp_0 (N := 1) (by decide) (xs_263 pp_1 (N := 2) (by decide) (br_t (by decide) h))
end IX
section IY
variable {C T F K : Int32} {st rs ti ni cr hc nk ms ei us dn sa fi lo hi wa ic se lc rm w q mg ou rp ca sg : Nat → Int32} {P : Int32} {p : Nat} {post : SY → Prop}
variable {J : Int32 → (Nat → Int32) → (Nat → Int32) → (Nat → Int32) → (Nat → Int32) → (Nat → Int32) → (Nat → Int32) → (Nat → Int32) → (Nat → Int32) → (Nat → Int32) → Prop} {i : Nat} {x7 : Int32}
theorem yi_263 {z : Int32} (hi8 : i < 8) (e7 : x7 = nI (i * 7)) (h : J (nI (i + 1)) (pn_I st rs ti ni cr hc nk ms ei us dn sa fi) (pn_O lo hi wa (upd ic i z) (upd se i (-1)) (upd lc i (-1)) (upd rm i (-1))) w q mg ou rp ca sg) : wY_init_263 post J (nI i) x7 z (x7 + 3) C T F K (pn_I st rs ti ni cr hc nk ms ei us dn sa fi) (pn_O lo hi wa ic se lc rm) w q mg ou rp ca sg := by
  have o3 : (x7 + 3).toNatClampNeg = i * 7 + 3 := by rw [e7]; exact pi_o3 hi8
  have v3 : vp_in (x7 + 3) 56 := by rw [e7]; exact pi_v3 hi8
  have o4 : (x7 + 4).toNatClampNeg = i * 7 + 4 := by rw [e7]; exact pi_o4 hi8
  have v4 : vp_in (x7 + 4) 56 := by rw [e7]; exact pi_v4 hi8
  have o5 : (x7 + 5).toNatClampNeg = i * 7 + 5 := by rw [e7]; exact pi_o5 hi8
  have v5 : vp_in (x7 + 5) 56 := by rw [e7]; exact pi_v5 hi8
  have o6 : (x7 + 6).toNatClampNeg = i * 7 + 6 := by rw [e7]; exact pi_o6 hi8
  have v6 : vp_in (x7 + 6) 56 := by rw [e7]; exact pi_v6 hi8
  unfold wY_init_263
  rw [o3, o4, o5, o6, pn_O_u3]
  refine ⟨v3, nm_e ⟨v4, ?_⟩⟩
  rw [pn_O_u4]
  refine nm_e ⟨v5, ?_⟩
  rw [pn_O_u5]
  refine nm_e ⟨v6, ?_⟩
  rw [pn_O_u6]
  exact nm_e (nm_r (nI_1 i) h)
theorem yi_212 {z : Int32} (hi8 : i < 8) (e7 : x7 = nI (i * 7)) (h : J (nI (i + 1)) (pn_I st rs ti ni cr hc nk ms ei us dn sa fi) (pn_O lo (upd hi i z) (upd wa i z) (upd ic i (if z < lo i then 0 else 1)) (upd se i (-1)) (upd lc i (-1)) (upd rm i (-1))) w q mg ou rp ca sg) : wY_init_212 post J (nI i) x7 z (x7 + 1) C T F K (pn_I st rs ti ni cr hc nk ms ei us dn sa fi) (pn_O lo hi wa ic se lc rm) w q mg ou rp ca sg := by
  have o0 : (x7).toNatClampNeg = i * 7 + 0 := by rw [e7]; exact pi_o0 hi8
  have v0 : vp_in (x7) 56 := by rw [e7]; exact pi_v0 hi8
  have o1 : (x7 + 1).toNatClampNeg = i * 7 + 1 := by rw [e7]; exact pi_o1 hi8
  have v1 : vp_in (x7 + 1) 56 := by rw [e7]; exact pi_v1 hi8
  have o2 : (x7 + 2).toNatClampNeg = i * 7 + 2 := by rw [e7]; exact pi_o2 hi8
  have v2 : vp_in (x7 + 2) 56 := by rw [e7]; exact pi_v2 hi8
  unfold wY_init_212
  rw [o0, o1, o2, pn_O_u1]
  refine ⟨v1, nm_e ⟨v1, v2, ?_⟩⟩
  rw [pn_O_a1, pn_at, pn_O_u2]
  refine nm_e ⟨v0, v1, ?_⟩
  rw [pn_O_a1, pn_O_a0, pn_at]
  by_cases c : z < lo i
  · rw [if_pos c] at h
    exact br_t c (yi_263 hi8 e7 h)
  · rw [if_neg c] at h
    exact br_f c (yi_263 hi8 e7 h)
theorem yi_169 {c z g : Int32} (hi8 : i < 8) (e7 : x7 = nI (i * 7)) (hg : (c = 0 ∧ g = 1500) ∨ (¬ c = 0 ∧ c = 1 ∧ g = 0) ∨ (¬ c = 0 ∧ ¬ c = 1 ∧ c = 2 ∧ g = 65535) ∨ (¬ c = 0 ∧ ¬ c = 1 ∧ ¬ c = 2 ∧ g = 15)) (h : J (nI (i + 1)) (pn_I st rs ti ni cr hc nk ms ei us dn sa fi) (pn_O (upd lo i z) (upd hi i g) (upd wa i g) (upd ic i (if g < z then 0 else 1)) (upd se i (-1)) (upd lc i (-1)) (upd rm i (-1))) w q mg ou rp ca sg) : wY_init_169 post J (nI i) c x7 z x7 C T F K (pn_I st rs ti ni cr hc nk ms ei us dn sa fi) (pn_O lo hi wa ic se lc rm) w q mg ou rp ca sg := by
  have o0 : (x7).toNatClampNeg = i * 7 + 0 := by rw [e7]; exact pi_o0 hi8
  have v0 : vp_in (x7) 56 := by rw [e7]; exact pi_v0 hi8
  unfold wY_init_169
  rw [o0, pn_O_u0]
  refine ⟨v0, nm_e ?_⟩
  have h2 : J (nI (i + 1)) (pn_I st rs ti ni cr hc nk ms ei us dn sa fi) (pn_O (upd lo i z) (upd hi i g) (upd wa i g) (upd ic i (if g < upd lo i z i then 0 else 1)) (upd se i (-1)) (upd lc i (-1)) (upd rm i (-1))) w q mg ou rp ca sg := by
    rw [pn_at]; exact h
  rcases hg with ⟨a, rfl⟩ | ⟨a, b, rfl⟩ | ⟨a, b, d, rfl⟩ | ⟨a, b, d, rfl⟩
  · exact br_t a (yi_212 hi8 e7 h2)
  · exact br_f a (br_t b (yi_212 hi8 e7 h2))
  · exact br_f a (br_f b (br_t d (yi_212 hi8 e7 h2)))
  · exact br_f a (br_f b (br_f d (yi_212 hi8 e7 h2)))
theorem ys_122 {n : Nat} {c z g : Int32} (hi8 : i < 8) (e6 : nI i &&& 3 = c) (hz : (c = 0 ∧ z = 64) ∨ (¬ c = 0 ∧ c = 3 ∧ z = 0) ∨ (¬ c = 0 ∧ ¬ c = 3 ∧ z = 1)) (hg : (c = 0 ∧ g = 1500) ∨ (¬ c = 0 ∧ c = 1 ∧ g = 0) ∨ (¬ c = 0 ∧ ¬ c = 1 ∧ c = 2 ∧ g = 65535) ∨ (¬ c = 0 ∧ ¬ c = 1 ∧ ¬ c = 2 ∧ g = 15)) (h : wY_init_122 post C T F K n (nI (i + 1)) (pn_I st rs ti ni cr hc nk ms ei us dn sa fi) (pn_O (upd lo i z) (upd hi i g) (upd wa i g) (upd ic i (if g < z then 0 else 1)) (upd se i (-1)) (upd lc i (-1)) (upd rm i (-1))) w q mg ou rp ca sg) : wY_init_122 post C T F K (n + 1) (nI i) (pn_I st rs ti ni cr hc nk ms ei us dn sa fi) (pn_O lo hi wa ic se lc rm) w q mg ou rp ca sg := by
  refine br_f (nI_ge (b := 8) hi8 (by decide)) (nm_r e6 (nm_r (e' := nI (i * 7)) (pn_mul i 7) ?_))
  rcases hz with ⟨a, rfl⟩ | ⟨a, b, rfl⟩ | ⟨a, b, rfl⟩
  · exact br_t a (yi_169 hi8 rfl hg h)
  · exact br_f a (br_t b (yi_169 hi8 rfl hg h))
  · exact br_f a (br_f b (yi_169 hi8 rfl hg h))
theorem ya_init {k0 k1 k2 k3 : Int32} (h : post (pn_cl k0 1 10, pn_cl k1 1 4, pn_cl k2 1 5, pn_cl k3 1 4, pn_I ((fun _ => 0 : Nat → Int32)) ((fun _ => 0 : Nat → Int32)) ((fun _ => 0 : Nat → Int32)) ((fun _ => 0 : Nat → Int32)) ((fun _ => 0 : Nat → Int32)) ((fun _ => 0 : Nat → Int32)) ((fun _ => 0 : Nat → Int32)) ((fun _ => 0 : Nat → Int32)) ((fun _ => 0 : Nat → Int32)) ((fun _ => 0 : Nat → Int32)) ((fun _ => 0 : Nat → Int32)) ((fun _ => 0 : Nat → Int32)) ((fun _ => 0 : Nat → Int32)), pn_O (upd (upd (upd (upd (upd (upd (upd (upd ((fun _ => 0 : Nat → Int32)) 0 64) 1 1) 2 1) 3 0) 4 64) 5 1) 6 1) 7 0) (upd (upd (upd (upd (upd (upd (upd (upd ((fun _ => 0 : Nat → Int32)) 0 1500) 1 0) 2 65535) 3 15) 4 1500) 5 0) 6 65535) 7 15) (upd (upd (upd (upd (upd (upd (upd (upd ((fun _ => 0 : Nat → Int32)) 0 1500) 1 0) 2 65535) 3 15) 4 1500) 5 0) 6 65535) 7 15) (upd (upd (upd (upd (upd (upd (upd (upd ((fun _ => 0 : Nat → Int32)) 0 (if (1500 : Int32) < 64 then 0 else 1)) 1 (if (0 : Int32) < 1 then 0 else 1)) 2 (if (65535 : Int32) < 1 then 0 else 1)) 3 (if (15 : Int32) < 0 then 0 else 1)) 4 (if (1500 : Int32) < 64 then 0 else 1)) 5 (if (0 : Int32) < 1 then 0 else 1)) 6 (if (65535 : Int32) < 1 then 0 else 1)) 7 (if (15 : Int32) < 0 then 0 else 1)) (upd (upd (upd (upd (upd (upd (upd (upd ((fun _ => 0 : Nat → Int32)) 0 (-1)) 1 (-1)) 2 (-1)) 3 (-1)) 4 (-1)) 5 (-1)) 6 (-1)) 7 (-1)) (upd (upd (upd (upd (upd (upd (upd (upd ((fun _ => 0 : Nat → Int32)) 0 (-1)) 1 (-1)) 2 (-1)) 3 (-1)) 4 (-1)) 5 (-1)) 6 (-1)) 7 (-1)) (upd (upd (upd (upd (upd (upd (upd (upd ((fun _ => 0 : Nat → Int32)) 0 (-1)) 1 (-1)) 2 (-1)) 3 (-1)) 4 (-1)) 5 (-1)) 6 (-1)) 7 (-1)), (fun _ => 0 : Nat → Int32), (fun _ => 0 : Nat → Int32), (fun _ => 0 : Nat → Int32), (fun _ => 0 : Nat → Int32), (fun _ => 0 : Nat → Int32), (fun _ => 0 : Nat → Int32), (fun _ => 0 : Nat → Int32))) : wpY_init post k0 k1 k2 k3 := by
  unfold wpY_init
  refine ya_lim ?_
  refine ya_lim ?_
  refine ya_lim ?_
  refine ya_lim ?_
  have h9 : ∃ n, wY_init_122 post (pn_cl k0 1 10) (pn_cl k1 1 4) (pn_cl k2 1 5) (pn_cl k3 1 4) n 0 (pn_I ((fun _ => 0 : Nat → Int32)) ((fun _ => 0 : Nat → Int32)) ((fun _ => 0 : Nat → Int32)) ((fun _ => 0 : Nat → Int32)) ((fun _ => 0 : Nat → Int32)) ((fun _ => 0 : Nat → Int32)) ((fun _ => 0 : Nat → Int32)) ((fun _ => 0 : Nat → Int32)) ((fun _ => 0 : Nat → Int32)) ((fun _ => 0 : Nat → Int32)) ((fun _ => 0 : Nat → Int32)) ((fun _ => 0 : Nat → Int32)) ((fun _ => 0 : Nat → Int32))) (pn_O ((fun _ => 0 : Nat → Int32)) ((fun _ => 0 : Nat → Int32)) ((fun _ => 0 : Nat → Int32)) ((fun _ => 0 : Nat → Int32)) ((fun _ => 0 : Nat → Int32)) ((fun _ => 0 : Nat → Int32)) ((fun _ => 0 : Nat → Int32))) ((fun _ => 0 : Nat → Int32)) ((fun _ => 0 : Nat → Int32)) ((fun _ => 0 : Nat → Int32)) ((fun _ => 0 : Nat → Int32)) ((fun _ => 0 : Nat → Int32)) ((fun _ => 0 : Nat → Int32)) ((fun _ => 0 : Nat → Int32)) := ⟨9, (ys_122 (i := 0) (c := 0) (z := 64) (g := 1500) (by decide) (by decide) (Or.inl ⟨by decide, rfl⟩) (Or.inl ⟨by decide, rfl⟩) (ys_122 (i := 1) (c := 1) (z := 1) (g := 0) (by decide) (by decide) (Or.inr (Or.inr ⟨by decide, by decide, rfl⟩)) (Or.inr (Or.inl ⟨by decide, by decide, rfl⟩)) (ys_122 (i := 2) (c := 2) (z := 1) (g := 65535) (by decide) (by decide) (Or.inr (Or.inr ⟨by decide, by decide, rfl⟩)) (Or.inr (Or.inr (Or.inl ⟨by decide, by decide, by decide, rfl⟩))) (ys_122 (i := 3) (c := 3) (z := 0) (g := 15) (by decide) (by decide) (Or.inr (Or.inl ⟨by decide, by decide, rfl⟩)) (Or.inr (Or.inr (Or.inr ⟨by decide, by decide, by decide, rfl⟩))) (ys_122 (i := 4) (c := 0) (z := 64) (g := 1500) (by decide) (by decide) (Or.inl ⟨by decide, rfl⟩) (Or.inl ⟨by decide, rfl⟩) (ys_122 (i := 5) (c := 1) (z := 1) (g := 0) (by decide) (by decide) (Or.inr (Or.inr ⟨by decide, by decide, rfl⟩)) (Or.inr (Or.inl ⟨by decide, by decide, rfl⟩)) (ys_122 (i := 6) (c := 2) (z := 1) (g := 65535) (by decide) (by decide) (Or.inr (Or.inr ⟨by decide, by decide, rfl⟩)) (Or.inr (Or.inr (Or.inl ⟨by decide, by decide, by decide, rfl⟩))) (ys_122 (i := 7) (c := 3) (z := 0) (g := 15) (by decide) (by decide) (Or.inr (Or.inl ⟨by decide, by decide, rfl⟩)) (Or.inr (Or.inr (Or.inr ⟨by decide, by decide, by decide, rfl⟩))) (br_t (by decide) h)))))))))⟩
  have eI := pn_I_0
  have eO := pn_O_0
  rw [← eI, ← eO] at h9
  exact h9
end IY
theorem in_lo : pn_4 (pn_4 ((fun _ => 0 : Nat → Int32)) (0 * 4) (pn_v4 64 1 1 0)) (1 * 4) (pn_v4 64 1 1 0) = upd (upd (upd (upd (upd (upd (upd (upd ((fun _ => 0 : Nat → Int32)) 0 64) 1 1) 2 1) 3 0) 4 64) 5 1) 6 1) 7 0 := rfl
theorem in_hi : pn_4 (pn_4 ((fun _ => 0 : Nat → Int32)) (0 * 4) (pn_v4 1500 0 65535 15)) (1 * 4) (pn_v4 1500 0 65535 15) = upd (upd (upd (upd (upd (upd (upd (upd ((fun _ => 0 : Nat → Int32)) 0 1500) 1 0) 2 65535) 3 15) 4 1500) 5 0) 6 65535) 7 15 := rfl
theorem in_wa : pn_4 (pn_4 ((fun _ => 0 : Nat → Int32)) (0 * 4) (pn_hi (pn_4 ((fun _ => 0 : Nat → Int32)) (0 * 4) (pn_v4 1500 0 65535 15)) 0)) (1 * 4) (pn_hi (pn_4 (pn_4 ((fun _ => 0 : Nat → Int32)) (0 * 4) (pn_v4 1500 0 65535 15)) (1 * 4) (pn_v4 1500 0 65535 15)) 1) = upd (upd (upd (upd (upd (upd (upd (upd ((fun _ => 0 : Nat → Int32)) 0 1500) 1 0) 2 65535) 3 15) 4 1500) 5 0) 6 65535) 7 15 := rfl
theorem in_ic : pn_4 (pn_4 ((fun _ => 0 : Nat → Int32)) (0 * 4) (pn_in (pn_4 ((fun _ => 0 : Nat → Int32)) (0 * 4) (pn_v4 64 1 1 0)) (pn_4 ((fun _ => 0 : Nat → Int32)) (0 * 4) (pn_v4 1500 0 65535 15)) 0)) (1 * 4) (pn_in (pn_4 (pn_4 ((fun _ => 0 : Nat → Int32)) (0 * 4) (pn_v4 64 1 1 0)) (1 * 4) (pn_v4 64 1 1 0)) (pn_4 (pn_4 ((fun _ => 0 : Nat → Int32)) (0 * 4) (pn_v4 1500 0 65535 15)) (1 * 4) (pn_v4 1500 0 65535 15)) 1) = upd (upd (upd (upd (upd (upd (upd (upd ((fun _ => 0 : Nat → Int32)) 0 (if (1500 : Int32) < 64 then 0 else 1)) 1 (if (0 : Int32) < 1 then 0 else 1)) 2 (if (65535 : Int32) < 1 then 0 else 1)) 3 (if (15 : Int32) < 0 then 0 else 1)) 4 (if (1500 : Int32) < 64 then 0 else 1)) 5 (if (0 : Int32) < 1 then 0 else 1)) 6 (if (65535 : Int32) < 1 then 0 else 1)) 7 (if (15 : Int32) < 0 then 0 else 1) := rfl
theorem in_se : pn_4 (pn_4 ((fun _ => 0 : Nat → Int32)) (0 * 4) (pn_v4 (-1) (-1) (-1) (-1))) (1 * 4) (pn_v4 (-1) (-1) (-1) (-1)) = upd (upd (upd (upd (upd (upd (upd (upd ((fun _ => 0 : Nat → Int32)) 0 (-1)) 1 (-1)) 2 (-1)) 3 (-1)) 4 (-1)) 5 (-1)) 6 (-1)) 7 (-1) := rfl
theorem in_lc : pn_4 (pn_4 ((fun _ => 0 : Nat → Int32)) (0 * 4) (pn_v4 (-1) (-1) (-1) (-1))) (1 * 4) (pn_v4 (-1) (-1) (-1) (-1)) = upd (upd (upd (upd (upd (upd (upd (upd ((fun _ => 0 : Nat → Int32)) 0 (-1)) 1 (-1)) 2 (-1)) 3 (-1)) 4 (-1)) 5 (-1)) 6 (-1)) 7 (-1) := rfl
theorem in_rm : pn_4 (pn_4 ((fun _ => 0 : Nat → Int32)) (0 * 4) (pn_v4 (-1) (-1) (-1) (-1))) (1 * 4) (pn_v4 (-1) (-1) (-1) (-1)) = upd (upd (upd (upd (upd (upd (upd (upd ((fun _ => 0 : Nat → Int32)) 0 (-1)) 1 (-1)) 2 (-1)) 3 (-1)) 4 (-1)) 5 (-1)) 6 (-1)) 7 (-1) := rfl
theorem in_V : pn_V ((fun _ => 0 : Nat → Int32)) ((fun _ => 0 : Nat → Int32)) (pn_4 (pn_4 ((fun _ => 0 : Nat → Int32)) (0 * 4) (pn_v4 64 1 1 0)) (1 * 4) (pn_v4 64 1 1 0)) (pn_4 (pn_4 ((fun _ => 0 : Nat → Int32)) (0 * 4) (pn_v4 1500 0 65535 15)) (1 * 4) (pn_v4 1500 0 65535 15)) (pn_4 (pn_4 ((fun _ => 0 : Nat → Int32)) (0 * 4) (pn_in (pn_4 ((fun _ => 0 : Nat → Int32)) (0 * 4) (pn_v4 64 1 1 0)) (pn_4 ((fun _ => 0 : Nat → Int32)) (0 * 4) (pn_v4 1500 0 65535 15)) 0)) (1 * 4) (pn_in (pn_4 (pn_4 ((fun _ => 0 : Nat → Int32)) (0 * 4) (pn_v4 64 1 1 0)) (1 * 4) (pn_v4 64 1 1 0)) (pn_4 (pn_4 ((fun _ => 0 : Nat → Int32)) (0 * 4) (pn_v4 1500 0 65535 15)) (1 * 4) (pn_v4 1500 0 65535 15)) 1)) ((fun _ => 0 : Nat → Int32)) (upd (upd (upd (upd (fun _ => 0 : Nat → Int32) 0 (-1)) 1 (-1)) 2 (-1)) 3 (-1)) := by
  refine ⟨?_, ?_, ?_, rfl, rfl, rfl, rfl⟩
  · intro p _
    exact ⟨0, by decide, rfl, fun _ => rfl⟩
  · intro i hi8
    rw [in_ic, in_lo, in_hi]
    have hc : i = 0 ∨ i = 1 ∨ i = 2 ∨ i = 3 ∨ i = 4 ∨ i = 5 ∨ i = 6 ∨ i = 7 := by omega
    rcases hc with rfl | rfl | rfl | rfl | rfl | rfl | rfl | rfl <;> decide
  · intro j _
    exact ⟨0, by decide, rfl⟩
theorem in_nk : upd (upd ((fun _ => 0 : Nat → Int32)) 0 0) 1 0 = (fun _ => 0 : Nat → Int32) := by
  funext j
  unfold upd
  by_cases h1 : j = 1
  · rw [if_pos h1]
  · rw [if_neg h1]
    by_cases h0 : j = 0
    · rw [if_pos h0]
    · rw [if_neg h0]
theorem i_vc0 (k0 : Int32) (k1 : Int32) (k2 : Int32) (k3 : Int32) : wpX_init (fun u => wpY_init (fun v => i_Rel 4 u v) k0 k1 k2 k3) k0 k1 k2 k3 := by
  refine xa_init ?_
  refine ya_init ?_
  have h := pr_mk (C := pn_cl k0 1 10) (T := pn_cl k1 1 4) (F := pn_cl k2 1 5) (K := pn_cl k3 1 4) (rc := 0) (k := 4) (rs := (fun _ => 0 : Nat → Int32)) (ni := (fun _ => 0 : Nat → Int32)) (cr := (fun _ => 0 : Nat → Int32)) (hc := (fun _ => 0 : Nat → Int32)) (nk := upd (upd ((fun _ => 0 : Nat → Int32)) 0 0) 1 0) (ms := (fun _ => 0 : Nat → Int32)) (ei := (fun _ => 0 : Nat → Int32)) (us := (fun _ => 0 : Nat → Int32)) (dn := (fun _ => 0 : Nat → Int32)) (sa := (fun _ => 0 : Nat → Int32)) (fi := (fun _ => 0 : Nat → Int32)) (wa := pn_4 (pn_4 ((fun _ => 0 : Nat → Int32)) (0 * 4) (pn_hi (pn_4 ((fun _ => 0 : Nat → Int32)) (0 * 4) (pn_v4 1500 0 65535 15)) 0)) (1 * 4) (pn_hi (pn_4 (pn_4 ((fun _ => 0 : Nat → Int32)) (0 * 4) (pn_v4 1500 0 65535 15)) (1 * 4) (pn_v4 1500 0 65535 15)) 1)) (se := pn_4 (pn_4 ((fun _ => 0 : Nat → Int32)) (0 * 4) (pn_v4 (-1) (-1) (-1) (-1))) (1 * 4) (pn_v4 (-1) (-1) (-1) (-1))) (lc := pn_4 (pn_4 ((fun _ => 0 : Nat → Int32)) (0 * 4) (pn_v4 (-1) (-1) (-1) (-1))) (1 * 4) (pn_v4 (-1) (-1) (-1) (-1))) (rm := pn_4 (pn_4 ((fun _ => 0 : Nat → Int32)) (0 * 4) (pn_v4 (-1) (-1) (-1) (-1))) (1 * 4) (pn_v4 (-1) (-1) (-1) (-1))) (w := (fun _ => 0 : Nat → Int32)) (ih := (fun _ => 0 : Nat → Int32)) (vd := (fun _ => 0 : Nat → Int32)) (ro := (fun _ => 0 : Nat → Int32)) (mg := (fun _ => 0 : Nat → Int32)) (ou := (fun _ => 0 : Nat → Int32)) (rp := (fun _ => 0 : Nat → Int32)) (ca := (fun _ => 0 : Nat → Int32)) (sg := (fun _ => 0 : Nat → Int32)) in_V
  rw [in_nk] at h ⊢
  rw [in_ic, in_wa, in_lo, in_hi, in_se] at h ⊢
  exact h
