theorem pn_4_k (f : Nat → Int32) (b : Nat) (m : Nat → Int32) {k : Nat} (hk : k < 4) : pn_4 f b m (b + k) = m k := by
  rcases pp_k4 hk with rfl | rfl | rfl | rfl
  · exact pn_4_0 f b m
  · exact pn_4_1 f b m
  · exact pn_4_2 f b m
  · exact pn_4_3 f b m
theorem pn_4_ne (f : Nat → Int32) {b : Nat} (m : Nat → Int32) {j : Nat} (h : ¬ (b ≤ j ∧ j < b + 4)) : pn_4 f b m j = f j := by
  unfold pn_4
  rw [pn_ne _ _ (by omega), pn_ne _ _ (by omega), pn_ne _ _ (by omega), pn_ne _ _ (by omega)]
theorem pn_7_k (f : Nat → Int32) (b : Nat) (m : Nat → Int32) {k : Nat} (hk : k < 7) : pn_7 f b m (b + k) = m k := by
  have h : k = 0 ∨ k = 1 ∨ k = 2 ∨ k = 3 ∨ k = 4 ∨ k = 5 ∨ k = 6 := by omega
  unfold pn_7
  rcases h with rfl | rfl | rfl | rfl | rfl | rfl | rfl
  · rw [pn_ne _ _ (by omega), pn_ne _ _ (by omega), pn_ne _ _ (by omega), pn_ne _ _ (by omega), pn_ne _ _ (by omega), pn_ne _ _ (by omega), pn_at]
  · rw [pn_ne _ _ (by omega), pn_ne _ _ (by omega), pn_ne _ _ (by omega), pn_ne _ _ (by omega), pn_ne _ _ (by omega), pn_at]
  · rw [pn_ne _ _ (by omega), pn_ne _ _ (by omega), pn_ne _ _ (by omega), pn_ne _ _ (by omega), pn_at]
  · rw [pn_ne _ _ (by omega), pn_ne _ _ (by omega), pn_ne _ _ (by omega), pn_at]
  · rw [pn_ne _ _ (by omega), pn_ne _ _ (by omega), pn_at]
  · rw [pn_ne _ _ (by omega), pn_at]
  · rw [pn_at]
theorem pn_7_ne (f : Nat → Int32) {b : Nat} (m : Nat → Int32) {j : Nat} (h : ¬ (b ≤ j ∧ j < b + 7)) : pn_7 f b m j = f j := by
  unfold pn_7
  rw [pn_ne _ _ (by omega), pn_ne _ _ (by omega), pn_ne _ _ (by omega), pn_ne _ _ (by omega), pn_ne _ _ (by omega), pn_ne _ _ (by omega), pn_ne _ _ (by omega)]
theorem iv_succ {x n : Int32} {N : Nat} (hx : x ≤ n) (hn : n ≤ nI N) (hN : N + 1 < 2 ^ 31) : x ≤ n + 1 ∧ ¬ x = n + 1 := by
  have hN1 : (nI N).toInt = N := nI_toInt (by omega)
  have one : (1 : Int32).toInt = 1 := by decide
  have l1 := Int32.minValue_le_toInt n
  rw [Int32.le_iff_toInt_le] at hx hn
  have e : (n + 1).toInt = n.toInt + 1 := by
    rw [Int32.toInt_add, one]
    have := Int32.le_toInt n
    exact Int.bmod_eq_of_le (by omega) (by omega)
  refine ⟨?_, fun z => ?_⟩
  · rw [Int32.le_iff_toInt_le, e]; omega
  · have := congrArg Int32.toInt z
    rw [e] at this
    omega
def iv_A (lo hi wa ic : Nat → Int32) (p : Nat) : Prop := ∀ k, k < 4 → ¬ ic (p * 4 + k) = 0 → lo (p * 4 + k) ≤ wa (p * 4 + k) ∧ wa (p * 4 + k) ≤ hi (p * 4 + k)
def iv_R (lo hi f : Nat → Int32) (p : Nat) : Prop := ∀ k, k < 4 → f (p * 4 + k) = -1 ∨ (lo (p * 4 + k) ≤ f (p * 4 + k) ∧ f (p * 4 + k) ≤ hi (p * 4 + k))
def iv_D (cr hc se lc rm : Nat → Int32) (p q : Nat) : Prop := hc q = cr p ∧ ∀ k, k < 4 → lc (p * 4 + k) = se (p * 4 + k) ∧ rm (q * 4 + k) = se (p * 4 + k)
def iv_F (cr hc lo hi wa ic se lc rm : Nat → Int32) (s p q : Nat) : Prop := (4 ≤ s → iv_A lo hi wa ic p ∧ iv_R lo hi se p) ∧ (6 ≤ s → 0 < cr p) ∧ (s = 7 ∨ s = 9 → iv_D cr hc se lc rm p q) ∧ (8 ≤ s → iv_R lo hi rm p)
def iv_m (cr hc se rm : Nat → Int32) (d e : Nat) (m : Nat → Int32) : Prop := (m 0 = 1 → m 1 ≤ cr d ∧ (m 1 = cr d → ∀ k, k < 4 → m (3 + k) = se (d * 4 + k))) ∧ (m 0 = 2 → m 1 ≤ hc d ∧ (m 1 = cr e → ∀ k, k < 4 → rm (d * 4 + k) = se (e * 4 + k)))
def iv_w (cr hc se rm w q : Nat → Int32) (d e : Nat) : Prop := ∀ s j, q d = nI s → s ≤ 8 → j < s → iv_m cr hc se rm d e (fun f => w (d * 56 + j * 7 + f))
def iv_n (N : Nat) (ni cr hc : Nat → Int32) (p q : Nat) : Prop := 0 ≤ cr p ∧ cr p ≤ ni p ∧ ni p ≤ nI N ∧ hc q ≤ cr p
def iv_K (N : Nat) (ni cr hc se rm w q : Nat → Int32) (d e : Nat) : Prop := iv_n N ni cr hc d e ∧ iv_n N ni cr hc e d ∧ iv_w cr hc se rm w q d e ∧ iv_w cr hc se rm w q e d
section IV
variable {ni cr hc lo hi wa ic se lc rm w q m m2 : Nat → Int32} {N p d e s t : Nat}
theorem iv_K_sw (K : iv_K N ni cr hc se rm w q d e) : iv_K N ni cr hc se rm w q e d := ⟨K.2.1, K.1, K.2.2.2, K.2.2.1⟩
theorem iv_F_le {s2 : Nat} (I : iv_F cr hc lo hi wa ic se lc rm s d e) (h1 : 4 ≤ s2 → 4 ≤ s) (h2 : 6 ≤ s2 → 6 ≤ s) (h3 : s2 = 7 ∨ s2 = 9 → s = 7 ∨ s = 9) (h4 : 8 ≤ s2 → 8 ≤ s) : iv_F cr hc lo hi wa ic se lc rm s2 d e :=
  ⟨fun z => I.1 (h1 z), fun z => I.2.1 (h2 z), fun z => I.2.2.1 (h3 z), fun z => I.2.2.2 (h4 z)⟩
theorem iv_m_x (h : ∀ f, f < 7 → m2 f = m f) (I : iv_m cr hc se rm d e m) : iv_m cr hc se rm d e m2 := by
  refine ⟨fun h0 => ?_, fun h0 => ?_⟩
  · rw [h 0 (by decide)] at h0
    obtain ⟨a, b⟩ := I.1 h0
    rw [h 1 (by decide)]
    exact ⟨a, fun z k hk => by rw [h (3 + k) (by omega)]; exact b z k hk⟩
  · rw [h 0 (by decide)] at h0
    obtain ⟨a, b⟩ := I.2 h0
    rw [h 1 (by decide)]
    exact ⟨a, b⟩
theorem iv_m_no (h1 : ¬ m 0 = 1) (h2 : ¬ m 0 = 2) : iv_m cr hc se rm d e m := ⟨fun z => absurd z h1, fun z => absurd z h2⟩
theorem iv_w_app (pq : d + e = 1) {c i x0 x1 x2 x3 : Int32} {dt : Int32} (hs : q d = nI s) (hs8 : s ≤ 8) (I : iv_w cr hc se rm w q d e) (hm : iv_m cr hc se rm d e (pn_m c i dt x0 x1 x2 x3)) : iv_w cr hc se rm (pn_aw w q d c i dt x0 x1 x2 x3) (pn_aq q d) d e := by
  by_cases h8 : s < 8
  · rw [pn_aw_lt hs h8, pn_aq_lt hs h8]
    intro s2 j e2 hs2 hj
    rw [pn_at, hs, nI_1] at e2
    have e3 : s + 1 = s2 := (nI_eq (by omega) (by omega)).mp e2
    by_cases ej : j = s
    · refine iv_m_x ?_ hm
      intro f hf
      show pn_7 w (d * 56 + s * 7) (pn_m c i dt x0 x1 x2 x3) (d * 56 + j * 7 + f) = _
      rw [ej]
      exact pn_7_k _ _ _ hf
    · refine iv_m_x ?_ (I s j hs hs8 (by omega))
      intro f hf
      exact pn_7_ne _ _ (by omega)
  · rw [pn_aw_ge hs h8 hs8, pn_aq_ge hs h8 hs8]
    exact I
theorem iv_w_oth (pq : d + e = 1) {c i x0 x1 x2 x3 : Int32} {dt : Int32} (hs : q d = nI s) (hs8 : s ≤ 8) (I : iv_w cr hc se rm w q e d) : iv_w cr hc se rm (pn_aw w q d c i dt x0 x1 x2 x3) (pn_aq q d) e d := by
  by_cases h8 : s < 8
  · rw [pn_aw_lt hs h8, pn_aq_lt hs h8]
    intro s2 j e2 hs2 hj
    rw [pn_ne _ _ (by omega)] at e2
    refine iv_m_x ?_ (I s2 j e2 hs2 hj)
    intro f hf
    exact pn_7_ne _ _ (by omega)
  · rw [pn_aw_ge hs h8 hs8, pn_aq_ge hs h8 hs8]
    exact I
theorem iv_K_app (pq : d + e = 1) {c i x0 x1 x2 x3 : Int32} {dt : Int32} (hs : q d = nI s) (hs8 : s ≤ 8) (K : iv_K N ni cr hc se rm w q d e) (hm : iv_m cr hc se rm d e (pn_m c i dt x0 x1 x2 x3)) : iv_K N ni cr hc se rm (pn_aw w q d c i dt x0 x1 x2 x3) (pn_aq q d) d e :=
  ⟨K.1, K.2.1, iv_w_app pq hs hs8 K.2.2.1 hm, iv_w_oth pq hs hs8 K.2.2.2⟩
theorem iv_w_tk (pq : d + e = 1) (hs : q d = nI (s + 1)) (hs8 : s + 1 ≤ 8) (I : iv_w cr hc se rm w q d e) : iv_w cr hc se rm (pn_sh w (d * 56) (s * 7)) (upd q d (nI s)) d e := by
  intro s2 j e2 hs2 hj
  rw [pn_at] at e2
  have e3 : s = s2 := (nI_eq (by omega) (by omega)).mp e2
  refine iv_m_x ?_ (I (s + 1) (j + 1) hs hs8 (by omega))
  intro f hf
  show (if d * 56 ≤ d * 56 + j * 7 + f ∧ d * 56 + j * 7 + f < d * 56 + s * 7 then w (d * 56 + j * 7 + f + 7) else w (d * 56 + j * 7 + f)) = w (d * 56 + (j + 1) * 7 + f)
  rw [if_pos (by omega)]
  exact congrArg w (by omega)
theorem iv_w_tko (pq : d + e = 1) (hs8 : s + 1 ≤ 8) (I : iv_w cr hc se rm w q e d) : iv_w cr hc se rm (pn_sh w (d * 56) (s * 7)) (upd q d (nI s)) e d := by
  intro s2 j e2 hs2 hj
  rw [pn_ne _ _ (by omega)] at e2
  refine iv_m_x ?_ (I s2 j e2 hs2 hj)
  intro f hf
  show (if d * 56 ≤ e * 56 + j * 7 + f ∧ e * 56 + j * 7 + f < d * 56 + s * 7 then w (e * 56 + j * 7 + f + 7) else w (e * 56 + j * 7 + f)) = w (e * 56 + j * 7 + f)
  rw [if_neg (by omega)]
theorem iv_K_tk (pq : d + e = 1) (hs : q d = nI (s + 1)) (hs8 : s + 1 ≤ 8) (K : iv_K N ni cr hc se rm w q d e) : iv_K N ni cr hc se rm (pn_sh w (d * 56) (s * 7)) (upd q d (nI s)) d e ∧ iv_m cr hc se rm d e (fun f => w (d * 56 + f)) := by
  refine ⟨⟨K.1, K.2.1, iv_w_tk pq hs hs8 K.2.2.1, iv_w_tko pq hs8 K.2.2.2⟩, ?_⟩
  refine iv_m_x ?_ (K.2.2.1 (s + 1) 0 hs hs8 (by omega))
  intro f hf
  exact congrArg w (by omega)
theorem iv_K_N {M : Nat} (hNM : N ≤ M) (hM : M < 2 ^ 31) (K : iv_K N ni cr hc se rm w q d e) : iv_K M ni cr hc se rm w q d e := by
  have h := nI_le hNM hM
  exact ⟨⟨K.1.1, K.1.2.1, Int32.le_trans K.1.2.2.1 h, K.1.2.2.2⟩, ⟨K.2.1.1, K.2.1.2.1, Int32.le_trans K.2.1.2.2.1 h, K.2.1.2.2.2⟩, K.2.2⟩
end IV
section IW
variable {ni cr hc lo hi wa ic se lc rm w q m M R : Nat → Int32} {N p d e s t : Nat}
theorem iv_up {n : Int32} (h0 : 0 ≤ n) (hn : n ≤ nI N) (hN : N + 1 < 2 ^ 31) : n + 1 ≤ nI (N + 1) ∧ 0 < n + 1 := by
  have hN1 : (nI N).toInt = N := nI_toInt (by omega)
  have hN2 : (nI (N + 1)).toInt = (N + 1 : Nat) := nI_toInt hN
  have one : (1 : Int32).toInt = 1 := by decide
  have zz : (0 : Int32).toInt = 0 := by decide
  rw [Int32.le_iff_toInt_le] at h0 hn
  have e : (n + 1).toInt = n.toInt + 1 := by
    rw [Int32.toInt_add, one]
    exact Int.bmod_eq_of_le (by omega) (by omega)
  refine ⟨?_, ?_⟩
  · rw [Int32.le_iff_toInt_le, e, hN2]; omega
  · rw [Int32.lt_iff_toInt_lt, e, zz]; omega
theorem iv_w_map {cr2 hc2 se2 rm2 : Nat → Int32} (h : ∀ m, iv_m cr hc se rm d e m → iv_m cr2 hc2 se2 rm2 d e m) (I : iv_w cr hc se rm w q d e) : iv_w cr2 hc2 se2 rm2 w q d e :=
  fun s j a b c => h _ (I s j a b c)
theorem iv_F_8 (I : iv_F cr hc lo hi wa ic se lc rm 6 d e) (h : iv_R lo hi rm d) : iv_F cr hc lo hi wa ic se lc rm 8 d e :=
  ⟨fun _ => I.1 (by decide), fun _ => I.2.1 (by decide), fun z => absurd z (by decide), fun _ => h⟩
theorem iv_F_7 (I : iv_F cr hc lo hi wa ic se lc rm 6 d e) (h : iv_D cr hc se lc rm d e) : iv_F cr hc lo hi wa ic se lc rm 7 d e :=
  ⟨fun _ => I.1 (by decide), fun _ => I.2.1 (by decide), fun _ => h, fun z => absurd z (by decide)⟩
theorem iv_F_9 (I : iv_F cr hc lo hi wa ic se lc rm 6 d e) (h : iv_D cr hc se lc rm d e) (h2 : iv_R lo hi rm d) : iv_F cr hc lo hi wa ic se lc rm 9 d e :=
  ⟨fun _ => I.1 (by decide), fun _ => I.2.1 (by decide), fun _ => h, fun _ => h2⟩
theorem iv_F_0 (hs : s < 4) : iv_F cr hc lo hi wa ic se lc rm s d e :=
  ⟨fun z => absurd z (by omega), fun z => absurd z (by omega), fun z => absurd z (by omega), fun z => absurd z (by omega)⟩
theorem iv_scr (pq : d + e = 1) (hs : q d = nI s) (hs8 : s ≤ 8) (hN : N + 1 < 2 ^ 31) (K : iv_K N ni cr hc se rm w q d e) (A : iv_A lo hi wa ic d) (Fe : iv_F cr hc lo hi wa ic se lc rm t e d) :
    iv_K (N + 1) (upd ni d (ni d + 1)) (upd cr d (ni d + 1)) hc (pn_4 se (d * 4) (pn_g ic wa d)) rm (pn_aw w q d 1 (ni d + 1) 0 (pn_g ic wa d 0) (pn_g ic wa d 1) (pn_g ic wa d 2) (pn_g ic wa d 3)) (pn_aq q d) d e
    ∧ iv_F (upd cr d (ni d + 1)) hc lo hi wa ic (pn_4 se (d * 4) (pn_g ic wa d)) lc rm 6 d e
    ∧ iv_F (upd cr d (ni d + 1)) hc lo hi wa ic (pn_4 se (d * 4) (pn_g ic wa d)) lc rm t e d := by
  obtain ⟨⟨n1, n2, n3, n4⟩, ⟨k1, k2, k3, k4⟩, W1, W2⟩ := K
  have ne : e ≠ d := by omega
  have ce : upd cr d (ni d + 1) e = cr e := pn_ne _ _ ne
  have cd : upd cr d (ni d + 1) d = ni d + 1 := pn_at _ _ _
  have see : ∀ k, k < 4 → pn_4 se (d * 4) (pn_g ic wa d) (e * 4 + k) = se (e * 4 + k) := fun k hk => pn_4_ne _ _ (by omega)
  have sed : ∀ k, k < 4 → pn_4 se (d * 4) (pn_g ic wa d) (d * 4 + k) = pn_g ic wa d k := fun k hk => pn_4_k _ _ _ hk
  have u := iv_up (Int32.le_trans n1 n2) n3 hN
  have nN := nI_le (Nat.le_succ N) hN
  have V1 : iv_w (upd cr d (ni d + 1)) hc (pn_4 se (d * 4) (pn_g ic wa d)) rm w q d e := by
    refine iv_w_map ?_ W1
    intro m I
    refine ⟨fun h0 => ?_, fun h0 => ?_⟩
    · obtain ⟨a, b⟩ := I.1 h0
      obtain ⟨x1, x2⟩ := iv_succ (Int32.le_trans a n2) n3 hN
      rw [cd]
      exact ⟨x1, fun z => absurd z x2⟩
    · obtain ⟨a, b⟩ := I.2 h0
      rw [ce]
      exact ⟨a, fun z k hk => by rw [see k hk]; exact b z k hk⟩
  have V2 : iv_w (upd cr d (ni d + 1)) hc (pn_4 se (d * 4) (pn_g ic wa d)) rm w q e d := by
    refine iv_w_map ?_ W2
    intro m I
    refine ⟨fun h0 => ?_, fun h0 => ?_⟩
    · obtain ⟨a, b⟩ := I.1 h0
      rw [ce]
      exact ⟨a, fun z k hk => by rw [see k hk]; exact b z k hk⟩
    · obtain ⟨a, b⟩ := I.2 h0
      obtain ⟨x1, x2⟩ := iv_succ (Int32.le_trans a (Int32.le_trans n4 n2)) n3 hN
      rw [cd]
      exact ⟨a, fun z => absurd z x2⟩
  have K0 : iv_K (N + 1) (upd ni d (ni d + 1)) (upd cr d (ni d + 1)) hc (pn_4 se (d * 4) (pn_g ic wa d)) rm w q d e := by
    refine ⟨⟨?_, ?_, ?_, ?_⟩, ⟨?_, ?_, ?_, ?_⟩, V1, V2⟩
    · rw [cd]; exact Int32.le_of_lt u.2
    · rw [cd, pn_at]; exact Int32.le_refl _
    · rw [pn_at]; exact u.1
    · rw [cd]; exact (iv_succ (Int32.le_trans n4 n2) n3 hN).1
    · rw [ce]; exact k1
    · rw [ce, pn_ne _ _ ne]; exact k2
    · rw [pn_ne _ _ ne]; exact Int32.le_trans k3 nN
    · rw [ce]; exact k4
  refine ⟨iv_K_app pq hs hs8 K0 ?_, ?_, ?_⟩
  · refine ⟨fun _ => ?_, fun z => absurd z (show ¬ (1 : Int32) = 2 by decide)⟩
    refine ⟨?_, fun _ k hk => ?_⟩
    · rw [cd]; exact Int32.le_refl _
    · rw [sed k hk]
      rcases pp_k4 hk with rfl | rfl | rfl | rfl <;> rfl
  · refine ⟨fun _ => ⟨A, ?_⟩, fun _ => ?_, fun z => absurd z (by decide), fun z => absurd z (by decide)⟩
    · intro k hk
      rw [sed k hk]
      unfold pn_g
      by_cases c : ic (d * 4 + k) = 0
      · rw [if_pos c]; exact Or.inl rfl
      · rw [if_neg c]; exact Or.inr (A k hk c)
    · rw [cd]; exact u.2
  · refine ⟨fun z => ⟨(Fe.1 z).1, ?_⟩, fun z => ?_, fun z => ?_, Fe.2.2.2⟩
    · intro k hk
      rw [see k hk]
      exact (Fe.1 z).2 k hk
    · rw [ce]; exact Fe.2.1 z
    · obtain ⟨a, b⟩ := Fe.2.2.1 z
      refine ⟨by rw [ce]; exact a, fun k hk => ?_⟩
      rw [see k hk]
      exact b k hk
theorem iv_sca (pq : d + e = 1) {i : Int32} (hs : q d = nI s) (hs8 : s ≤ 8) (hi1 : hc d = i) (hq : i = cr e → ∀ k, k < 4 → R k = se (e * 4 + k)) (ha : ∀ k, k < 4 → R k = -1 ∨ (lo (d * 4 + k) ≤ R k ∧ R k ≤ hi (d * 4 + k))) (K : iv_K N ni cr hc se rm w q d e) (Fe : iv_F cr hc lo hi wa ic se lc rm t e d) :
    iv_K N ni cr hc se (pn_4 rm (d * 4) R) (pn_aw w q d 2 i 0 (R 0) (R 1) (R 2) (R 3)) (pn_aq q d) d e ∧ iv_R lo hi (pn_4 rm (d * 4) R) d ∧ iv_F cr hc lo hi wa ic se lc (pn_4 rm (d * 4) R) t e d ∧ (∀ k, k < 4 → pn_4 rm (d * 4) R (e * 4 + k) = rm (e * 4 + k)) := by
  obtain ⟨N1, ⟨k1, k2, k3, k4⟩, W1, W2⟩ := K
  have rme : ∀ k, k < 4 → pn_4 rm (d * 4) R (e * 4 + k) = rm (e * 4 + k) := fun k hk => pn_4_ne _ _ (by omega)
  have rmd : ∀ k, k < 4 → pn_4 rm (d * 4) R (d * 4 + k) = R k := fun k hk => pn_4_k _ _ _ hk
  have V1 : iv_w cr hc se (pn_4 rm (d * 4) R) w q d e := by
    refine iv_w_map ?_ W1
    intro m I
    refine ⟨I.1, fun h0 => ?_⟩
    obtain ⟨a, b⟩ := I.2 h0
    refine ⟨a, fun z k hk => ?_⟩
    rw [rmd k hk]
    refine hq ?_ k hk
    rw [← hi1]
    rw [z] at a
    exact Int32.le_antisymm k4 a
  have V2 : iv_w cr hc se (pn_4 rm (d * 4) R) w q e d := by
    refine iv_w_map ?_ W2
    intro m I
    refine ⟨I.1, fun h0 => ?_⟩
    obtain ⟨a, b⟩ := I.2 h0
    exact ⟨a, fun z k hk => by rw [rme k hk]; exact b z k hk⟩
  refine ⟨iv_K_app pq hs hs8 ⟨N1, ⟨k1, k2, k3, k4⟩, V1, V2⟩ ?_, ?_, ?_, rme⟩
  · refine ⟨fun z => absurd z (show ¬ (2 : Int32) = 1 by decide), fun _ => ⟨?_, fun z k hk => ?_⟩⟩
    · show i ≤ hc d
      rw [hi1]; exact Int32.le_refl _
    · rw [rmd k hk]
      exact hq z k hk
  · intro k hk
    rw [rmd k hk]
    exact ha k hk
  · refine ⟨Fe.1, Fe.2.1, fun z => ?_, fun z k hk => ?_⟩
    · obtain ⟨a, b⟩ := Fe.2.2.1 z
      refine ⟨a, fun k hk => ⟨(b k hk).1, ?_⟩⟩
      rw [rmd k hk]
      exact hq (hi1.symm.trans a) k hk
    · rw [rme k hk]
      exact Fe.2.2.2 z k hk
theorem iv_hc (pq : d + e = 1) (K : iv_K N ni cr hc se rm w q d e) (Fd : iv_F cr hc lo hi wa ic se lc rm s d e) (Fe : iv_F cr hc lo hi wa ic se lc rm t e d) (I : iv_m cr hc se rm e d M) (m0 : M 0 = 1) (h : hc d ≤ M 1) :
    iv_K N ni cr (upd hc d (M 1)) se rm w q d e ∧ iv_F cr (upd hc d (M 1)) lo hi wa ic se lc rm s d e ∧ iv_F cr (upd hc d (M 1)) lo hi wa ic se lc rm t e d ∧ upd hc d (M 1) d = M 1 ∧ (M 1 = cr e → ∀ k, k < 4 → M (3 + k) = se (e * 4 + k)) := by
  obtain ⟨⟨n1, n2, n3, n4⟩, ⟨k1, k2, k3, k4⟩, W1, W2⟩ := K
  obtain ⟨a, b⟩ := I.1 m0
  have ne : e ≠ d := by omega
  have he : upd hc d (M 1) e = hc e := pn_ne _ _ ne
  have hd : upd hc d (M 1) d = M 1 := pn_at _ _ _
  refine ⟨⟨⟨n1, n2, n3, by rw [he]; exact n4⟩, ⟨k1, k2, k3, by rw [hd]; exact a⟩, ?_, ?_⟩, ⟨Fd.1, Fd.2.1, fun z => ?_, Fd.2.2.2⟩, ⟨Fe.1, Fe.2.1, fun z => ?_, Fe.2.2.2⟩, hd, b⟩
  · refine iv_w_map ?_ W1
    intro m J
    refine ⟨J.1, fun h0 => ?_⟩
    obtain ⟨x, y⟩ := J.2 h0
    rw [hd]
    exact ⟨Int32.le_trans x h, y⟩
  · refine iv_w_map ?_ W2
    intro m J
    refine ⟨J.1, fun h0 => ?_⟩
    rw [he]
    exact J.2 h0
  · obtain ⟨x, y⟩ := Fd.2.2.1 z
    exact ⟨by rw [he]; exact x, y⟩
  · obtain ⟨x, y⟩ := Fe.2.2.1 z
    refine ⟨?_, y⟩
    rw [hd]
    rw [x] at h
    exact Int32.le_antisymm a h
theorem iv_start (pq : d + e = 1) (Fe : iv_F cr hc lo hi wa ic se lc rm t e d) : iv_A lo hi (pn_4 wa (d * 4) (pn_hi hi d)) (pn_4 ic (d * 4) (pn_in lo hi d)) d ∧ iv_F cr hc lo hi (pn_4 wa (d * 4) (pn_hi hi d)) (pn_4 ic (d * 4) (pn_in lo hi d)) se lc rm t e d := by
  refine ⟨?_, fun z => ⟨?_, (Fe.1 z).2⟩, Fe.2⟩
  · intro k hk
    rw [pn_4_k _ _ _ hk, pn_4_k _ _ _ hk]
    unfold pn_in pn_hi
    by_cases c : hi (d * 4 + k) < lo (d * 4 + k)
    · rw [if_pos c]; exact fun z => absurd rfl z
    · intro _
      exact ⟨Int32.not_lt.mp c, Int32.le_refl _⟩
  · intro k hk
    rw [pn_4_ne _ _ (by omega), pn_4_ne _ _ (by omega)]
    exact (Fe.1 z).1 k hk
theorem iv_cl {v l g : Int32} (h : l ≤ g) : l ≤ pn_cl v l g ∧ pn_cl v l g ≤ g := by
  unfold pn_cl
  by_cases c1 : l ≤ v
  · rw [if_pos c1]
    by_cases c2 : v ≤ g
    · rw [if_pos c2]; exact ⟨c1, c2⟩
    · rw [if_neg c2]; exact ⟨h, Int32.le_refl _⟩
  · rw [if_neg c1]; exact ⟨Int32.le_refl _, h⟩
theorem iv_ado (pq : d + e = 1) {c : Int32} (A : iv_A lo hi wa ic d) (Fe : iv_F cr hc lo hi wa ic se lc rm t e d) : iv_A lo hi (pn_4 wa (d * 4) (pn_aW c M lo hi wa d)) (pn_4 ic (d * 4) (pn_aI c M ic d)) d ∧ iv_F cr hc lo hi (pn_4 wa (d * 4) (pn_aW c M lo hi wa d)) (pn_4 ic (d * 4) (pn_aI c M ic d)) se lc rm t e d := by
  refine ⟨?_, fun z => ⟨?_, (Fe.1 z).2⟩, Fe.2⟩
  · intro k hk
    rw [pn_4_k _ _ _ hk, pn_4_k _ _ _ hk]
    unfold pn_aW pn_aI
    by_cases c1 : M (3 + k) = -1
    · rw [if_pos c1, if_pos c1]; exact A k hk
    · rw [if_neg c1, if_neg c1]
      by_cases c3 : c = 3
      · rw [if_pos c3, if_pos c3]
        intro z
        have h := A k hk z
        exact iv_cl (Int32.le_trans h.1 h.2)
      · rw [if_neg c3, if_neg c3]
        exact fun z => absurd rfl z
  · intro k hk
    rw [pn_4_ne _ _ (by omega), pn_4_ne _ _ (by omega)]
    exact (Fe.1 z).1 k hk
theorem iv_lc (pq : d + e = 1) (K : iv_K N ni cr hc se rm w q d e) (Fe : iv_F cr hc lo hi wa ic se lc rm t e d) (I : iv_m cr hc se rm e d M) (m0 : M 0 = 2) (m1 : M 1 = cr d) : iv_D cr hc se (pn_4 lc (d * 4) (fun k => se (d * 4 + k))) rm d e ∧ iv_F cr hc lo hi wa ic se (pn_4 lc (d * 4) (fun k => se (d * 4 + k))) rm t e d := by
  obtain ⟨a, b⟩ := I.2 m0
  refine ⟨⟨?_, fun k hk => ⟨?_, b m1 k hk⟩⟩, Fe.1, Fe.2.1, fun z => ?_, Fe.2.2.2⟩
  · rw [m1] at a
    exact Int32.le_antisymm K.1.2.2.2 a
  · rw [pn_4_k _ _ _ hk]
  · obtain ⟨x, y⟩ := Fe.2.2.1 z
    refine ⟨x, fun k hk => ?_⟩
    rw [pn_4_ne _ _ (by omega)]
    exact y k hk
theorem iv_rng (pq : d + e = 1) {i : Nat} {a b : Int32} (hi4 : i < 4) (Fe : iv_F cr hc lo hi wa ic se lc rm t e d) : iv_F cr hc (upd lo (d * 4 + i) a) (upd hi (d * 4 + i) b) wa ic se lc rm t e d := by
  have x : ∀ k, k < 4 → upd lo (d * 4 + i) a (e * 4 + k) = lo (e * 4 + k) := fun k hk => pn_ne _ _ (by omega)
  have y : ∀ k, k < 4 → upd hi (d * 4 + i) b (e * 4 + k) = hi (e * 4 + k) := fun k hk => pn_ne _ _ (by omega)
  refine ⟨fun z => ⟨fun k hk => ?_, fun k hk => ?_⟩, Fe.2.1, Fe.2.2.1, fun z k hk => ?_⟩
  · rw [x k hk, y k hk]; exact (Fe.1 z).1 k hk
  · rw [x k hk, y k hk]; exact (Fe.1 z).2 k hk
  · rw [x k hk, y k hk]; exact Fe.2.2.2 z k hk
end IW
section IA
variable {lo hi wa ic M J : Nat → Int32} {d k : Nat}
theorem iv_o2 {x j : Int32} (e : pn_o2 x j = 0) : x = 0 ∧ ¬ j = -2 := by
  unfold pn_o2 at e
  by_cases c : j = -2
  · rw [if_pos c] at e; exact absurd e (by decide)
  · rw [if_neg c] at e; exact ⟨e, c⟩
theorem iv_o3 {x j : Int32} (e : pn_o3 x j = 0) : x = 0 ∧ j < 0 := by
  unfold pn_o3 at e
  by_cases c : j < 0
  · rw [if_pos c] at e; exact ⟨e, c⟩
  · rw [if_neg c] at e; exact absurd e (by decide)
theorem iv_RN (h1 : pn_R J = 0) (h2 : pn_N J = 0) : ∀ k, k < 4 → J k < 0 ∧ ¬ J k = -2 := by
  unfold pn_R at h1
  unfold pn_N at h2
  obtain ⟨a3, b3⟩ := iv_o2 h1
  obtain ⟨a2, b2⟩ := iv_o2 a3
  obtain ⟨a1, b1⟩ := iv_o2 a2
  obtain ⟨_, b0⟩ := iv_o2 a1
  obtain ⟨c3, d3⟩ := iv_o3 h2
  obtain ⟨c2, d2⟩ := iv_o3 c3
  obtain ⟨c1, d1⟩ := iv_o3 c2
  obtain ⟨_, d0⟩ := iv_o3 c1
  intro k hk
  rcases pp_k4 hk with rfl | rfl | rfl | rfl
  · exact ⟨d0, b0⟩
  · exact ⟨d1, b1⟩
  · exact ⟨d2, b2⟩
  · exact ⟨d3, b3⟩
theorem iv_jud (hl : 0 ≤ lo (d * 4 + k)) (hh : 0 ≤ hi (d * 4 + k)) (h1 : pn_J lo hi wa ic d M k < 0) (h2 : ¬ pn_J lo hi wa ic d M k = -2) : M (3 + k) = -1 ∨ (lo (d * 4 + k) ≤ M (3 + k) ∧ M (3 + k) ≤ hi (d * 4 + k)) := by
  unfold pn_J at h1 h2
  by_cases c1 : M (3 + k) = -1
  · exact Or.inl c1
  · rw [if_neg c1] at h1 h2
    by_cases c2 : lo (d * 4 + k) ≤ hi (d * 4 + k)
    · rw [if_pos c2] at h1 h2
      by_cases c3 : lo (d * 4 + k) ≤ M (3 + k)
      · rw [if_pos c3] at h1 h2
        by_cases c4 : M (3 + k) ≤ hi (d * 4 + k)
        · exact Or.inr ⟨c3, c4⟩
        · rw [if_neg c4] at h1
          exact absurd h1 (Int32.not_lt.mpr hh)
      · rw [if_neg c3] at h1
        exact absurd h1 (Int32.not_lt.mpr hl)
    · rw [if_neg c2] at h2
      exact absurd rfl h2
theorem iv_gA {M se : Nat → Int32} {p : Nat} {y : Int32} (h : ¬ pn_gA M se p y = 0) : ¬ y = 0 := by
  intro z
  apply h
  have s : ∀ k, pn_fA M se p k 0 = 0 := fun k => ite_self 0
  unfold pn_gA
  rw [z, s, s, s, s]
end IA
