section
def pn_2 (n : Nat) (A : Nat → Nat → Int32) : Nat → Int32 := fun j => A (j % n) (j / n)
theorem pn_mod {n p k : Nat} (hk : k < n) : (p * n + k) % n = k := by
  rw [Nat.mul_comm, Nat.mul_add_mod]; exact Nat.mod_eq_of_lt hk
theorem pn_div {n p k : Nat} (hk : k < n) : (p * n + k) / n = p := by
  have hn : 0 < n := by omega
  rw [Nat.mul_comm, Nat.mul_add_div hn, Nat.div_eq_of_lt hk, Nat.add_zero]
theorem pn_2_at {n : Nat} (A : Nat → Nat → Int32) (p k : Nat) (hk : k < n) : pn_2 n A (p * n + k) = A k p := by
  show A ((p * n + k) % n) ((p * n + k) / n) = A k p
  rw [pn_mod hk, pn_div hk]
theorem pn_2_up {n : Nat} (A B : Nat → Nat → Int32) (p k : Nat) (v : Int32) (hk : k < n) (hB : ∀ i, B i = if i = k then upd (A i) p v else A i) : upd (pn_2 n A) (p * n + k) v = pn_2 n B := by
  funext j
  show (if j = p * n + k then v else A (j % n) (j / n)) = B (j % n) (j / n)
  rw [hB]
  by_cases h : j = p * n + k
  · rw [if_pos h, h, pn_mod hk, pn_div hk, if_pos rfl]
    show v = if p = p then v else _
    rw [if_pos rfl]
  · rw [if_neg h]
    by_cases h1 : j % n = k
    · rw [if_pos h1]
      have h2 : ¬ j / n = p := by
        intro e
        apply h
        have := Nat.div_add_mod j n
        rw [← this, h1, e, Nat.mul_comm]
      show _ = if j / n = p then v else _
      rw [if_neg h2]
    · rw [if_neg h1]
theorem pn_self (f : Nat → Int32) (k : Nat) (v : Int32) (h : f k = v) : upd f k v = f := by
  funext j
  show (if j = k then v else f j) = f j
  by_cases e : j = k
  · rw [if_pos e, e, h]
  · rw [if_neg e]
theorem pn_uu (f : Nat → Int32) (k : Nat) (x y : Int32) : upd (upd f k x) k y = upd f k y := by
  funext j
  show (if j = k then y else if j = k then x else f j) = if j = k then y else f j
  by_cases e : j = k
  · rw [if_pos e, if_pos e]
  · rw [if_neg e, if_neg e, if_neg e]
theorem pn_at (f : Nat → Int32) (k : Nat) (x : Int32) : upd f k x k = x := by
  show (if k = k then x else f k) = x
  rw [if_pos rfl]
theorem pn_ne (f : Nat → Int32) {k j : Nat} (x : Int32) (h : j ≠ k) : upd f k x j = f j := by
  show (if j = k then x else f j) = f j
  rw [if_neg h]
def pn_I (st rs ti ni cr hc nk ms ei us dn sa fi : Nat → Int32) : Nat → Int32 := pn_2 13 (fun k => match k with | 0 => st | 1 => rs | 2 => ti | 3 => ni | 4 => cr | 5 => hc | 6 => nk | 7 => ms | 8 => ei | 9 => us | 10 => dn | 11 => sa | 12 => fi | _ => fun _ => 0)
theorem pn_I_a0 (st rs ti ni cr hc nk ms ei us dn sa fi : Nat → Int32) (p : Nat) : pn_I st rs ti ni cr hc nk ms ei us dn sa fi (p * 13 + 0) = st p := pn_2_at _ p 0 (by decide)
theorem pn_I_u0 (st rs ti ni cr hc nk ms ei us dn sa fi : Nat → Int32) (p : Nat) (v : Int32) : upd (pn_I st rs ti ni cr hc nk ms ei us dn sa fi) (p * 13 + 0) v = pn_I (upd st p v) rs ti ni cr hc nk ms ei us dn sa fi := by
  refine pn_2_up _ _ p 0 v (by decide) ?_
  intro i
  match i with
  | 0 => rfl
  | 1 => rfl
  | 2 => rfl
  | 3 => rfl
  | 4 => rfl
  | 5 => rfl
  | 6 => rfl
  | 7 => rfl
  | 8 => rfl
  | 9 => rfl
  | 10 => rfl
  | 11 => rfl
  | 12 => rfl
  | m + 13 => exact (if_neg (by omega)).symm
theorem pn_I_a1 (st rs ti ni cr hc nk ms ei us dn sa fi : Nat → Int32) (p : Nat) : pn_I st rs ti ni cr hc nk ms ei us dn sa fi (p * 13 + 1) = rs p := pn_2_at _ p 1 (by decide)
theorem pn_I_u1 (st rs ti ni cr hc nk ms ei us dn sa fi : Nat → Int32) (p : Nat) (v : Int32) : upd (pn_I st rs ti ni cr hc nk ms ei us dn sa fi) (p * 13 + 1) v = pn_I st (upd rs p v) ti ni cr hc nk ms ei us dn sa fi := by
  refine pn_2_up _ _ p 1 v (by decide) ?_
  intro i
  match i with
  | 0 => rfl
  | 1 => rfl
  | 2 => rfl
  | 3 => rfl
  | 4 => rfl
  | 5 => rfl
  | 6 => rfl
  | 7 => rfl
  | 8 => rfl
  | 9 => rfl
  | 10 => rfl
  | 11 => rfl
  | 12 => rfl
  | m + 13 => exact (if_neg (by omega)).symm
theorem pn_I_a2 (st rs ti ni cr hc nk ms ei us dn sa fi : Nat → Int32) (p : Nat) : pn_I st rs ti ni cr hc nk ms ei us dn sa fi (p * 13 + 2) = ti p := pn_2_at _ p 2 (by decide)
theorem pn_I_u2 (st rs ti ni cr hc nk ms ei us dn sa fi : Nat → Int32) (p : Nat) (v : Int32) : upd (pn_I st rs ti ni cr hc nk ms ei us dn sa fi) (p * 13 + 2) v = pn_I st rs (upd ti p v) ni cr hc nk ms ei us dn sa fi := by
  refine pn_2_up _ _ p 2 v (by decide) ?_
  intro i
  match i with
  | 0 => rfl
  | 1 => rfl
  | 2 => rfl
  | 3 => rfl
  | 4 => rfl
  | 5 => rfl
  | 6 => rfl
  | 7 => rfl
  | 8 => rfl
  | 9 => rfl
  | 10 => rfl
  | 11 => rfl
  | 12 => rfl
  | m + 13 => exact (if_neg (by omega)).symm
theorem pn_I_a3 (st rs ti ni cr hc nk ms ei us dn sa fi : Nat → Int32) (p : Nat) : pn_I st rs ti ni cr hc nk ms ei us dn sa fi (p * 13 + 3) = ni p := pn_2_at _ p 3 (by decide)
theorem pn_I_u3 (st rs ti ni cr hc nk ms ei us dn sa fi : Nat → Int32) (p : Nat) (v : Int32) : upd (pn_I st rs ti ni cr hc nk ms ei us dn sa fi) (p * 13 + 3) v = pn_I st rs ti (upd ni p v) cr hc nk ms ei us dn sa fi := by
  refine pn_2_up _ _ p 3 v (by decide) ?_
  intro i
  match i with
  | 0 => rfl
  | 1 => rfl
  | 2 => rfl
  | 3 => rfl
  | 4 => rfl
  | 5 => rfl
  | 6 => rfl
  | 7 => rfl
  | 8 => rfl
  | 9 => rfl
  | 10 => rfl
  | 11 => rfl
  | 12 => rfl
  | m + 13 => exact (if_neg (by omega)).symm
theorem pn_I_a4 (st rs ti ni cr hc nk ms ei us dn sa fi : Nat → Int32) (p : Nat) : pn_I st rs ti ni cr hc nk ms ei us dn sa fi (p * 13 + 4) = cr p := pn_2_at _ p 4 (by decide)
theorem pn_I_u4 (st rs ti ni cr hc nk ms ei us dn sa fi : Nat → Int32) (p : Nat) (v : Int32) : upd (pn_I st rs ti ni cr hc nk ms ei us dn sa fi) (p * 13 + 4) v = pn_I st rs ti ni (upd cr p v) hc nk ms ei us dn sa fi := by
  refine pn_2_up _ _ p 4 v (by decide) ?_
  intro i
  match i with
  | 0 => rfl
  | 1 => rfl
  | 2 => rfl
  | 3 => rfl
  | 4 => rfl
  | 5 => rfl
  | 6 => rfl
  | 7 => rfl
  | 8 => rfl
  | 9 => rfl
  | 10 => rfl
  | 11 => rfl
  | 12 => rfl
  | m + 13 => exact (if_neg (by omega)).symm
theorem pn_I_a5 (st rs ti ni cr hc nk ms ei us dn sa fi : Nat → Int32) (p : Nat) : pn_I st rs ti ni cr hc nk ms ei us dn sa fi (p * 13 + 5) = hc p := pn_2_at _ p 5 (by decide)
theorem pn_I_u5 (st rs ti ni cr hc nk ms ei us dn sa fi : Nat → Int32) (p : Nat) (v : Int32) : upd (pn_I st rs ti ni cr hc nk ms ei us dn sa fi) (p * 13 + 5) v = pn_I st rs ti ni cr (upd hc p v) nk ms ei us dn sa fi := by
  refine pn_2_up _ _ p 5 v (by decide) ?_
  intro i
  match i with
  | 0 => rfl
  | 1 => rfl
  | 2 => rfl
  | 3 => rfl
  | 4 => rfl
  | 5 => rfl
  | 6 => rfl
  | 7 => rfl
  | 8 => rfl
  | 9 => rfl
  | 10 => rfl
  | 11 => rfl
  | 12 => rfl
  | m + 13 => exact (if_neg (by omega)).symm
theorem pn_I_a6 (st rs ti ni cr hc nk ms ei us dn sa fi : Nat → Int32) (p : Nat) : pn_I st rs ti ni cr hc nk ms ei us dn sa fi (p * 13 + 6) = nk p := pn_2_at _ p 6 (by decide)
theorem pn_I_u6 (st rs ti ni cr hc nk ms ei us dn sa fi : Nat → Int32) (p : Nat) (v : Int32) : upd (pn_I st rs ti ni cr hc nk ms ei us dn sa fi) (p * 13 + 6) v = pn_I st rs ti ni cr hc (upd nk p v) ms ei us dn sa fi := by
  refine pn_2_up _ _ p 6 v (by decide) ?_
  intro i
  match i with
  | 0 => rfl
  | 1 => rfl
  | 2 => rfl
  | 3 => rfl
  | 4 => rfl
  | 5 => rfl
  | 6 => rfl
  | 7 => rfl
  | 8 => rfl
  | 9 => rfl
  | 10 => rfl
  | 11 => rfl
  | 12 => rfl
  | m + 13 => exact (if_neg (by omega)).symm
theorem pn_I_a7 (st rs ti ni cr hc nk ms ei us dn sa fi : Nat → Int32) (p : Nat) : pn_I st rs ti ni cr hc nk ms ei us dn sa fi (p * 13 + 7) = ms p := pn_2_at _ p 7 (by decide)
theorem pn_I_u7 (st rs ti ni cr hc nk ms ei us dn sa fi : Nat → Int32) (p : Nat) (v : Int32) : upd (pn_I st rs ti ni cr hc nk ms ei us dn sa fi) (p * 13 + 7) v = pn_I st rs ti ni cr hc nk (upd ms p v) ei us dn sa fi := by
  refine pn_2_up _ _ p 7 v (by decide) ?_
  intro i
  match i with
  | 0 => rfl
  | 1 => rfl
  | 2 => rfl
  | 3 => rfl
  | 4 => rfl
  | 5 => rfl
  | 6 => rfl
  | 7 => rfl
  | 8 => rfl
  | 9 => rfl
  | 10 => rfl
  | 11 => rfl
  | 12 => rfl
  | m + 13 => exact (if_neg (by omega)).symm
theorem pn_I_a8 (st rs ti ni cr hc nk ms ei us dn sa fi : Nat → Int32) (p : Nat) : pn_I st rs ti ni cr hc nk ms ei us dn sa fi (p * 13 + 8) = ei p := pn_2_at _ p 8 (by decide)
theorem pn_I_u8 (st rs ti ni cr hc nk ms ei us dn sa fi : Nat → Int32) (p : Nat) (v : Int32) : upd (pn_I st rs ti ni cr hc nk ms ei us dn sa fi) (p * 13 + 8) v = pn_I st rs ti ni cr hc nk ms (upd ei p v) us dn sa fi := by
  refine pn_2_up _ _ p 8 v (by decide) ?_
  intro i
  match i with
  | 0 => rfl
  | 1 => rfl
  | 2 => rfl
  | 3 => rfl
  | 4 => rfl
  | 5 => rfl
  | 6 => rfl
  | 7 => rfl
  | 8 => rfl
  | 9 => rfl
  | 10 => rfl
  | 11 => rfl
  | 12 => rfl
  | m + 13 => exact (if_neg (by omega)).symm
theorem pn_I_a9 (st rs ti ni cr hc nk ms ei us dn sa fi : Nat → Int32) (p : Nat) : pn_I st rs ti ni cr hc nk ms ei us dn sa fi (p * 13 + 9) = us p := pn_2_at _ p 9 (by decide)
theorem pn_I_u9 (st rs ti ni cr hc nk ms ei us dn sa fi : Nat → Int32) (p : Nat) (v : Int32) : upd (pn_I st rs ti ni cr hc nk ms ei us dn sa fi) (p * 13 + 9) v = pn_I st rs ti ni cr hc nk ms ei (upd us p v) dn sa fi := by
  refine pn_2_up _ _ p 9 v (by decide) ?_
  intro i
  match i with
  | 0 => rfl
  | 1 => rfl
  | 2 => rfl
  | 3 => rfl
  | 4 => rfl
  | 5 => rfl
  | 6 => rfl
  | 7 => rfl
  | 8 => rfl
  | 9 => rfl
  | 10 => rfl
  | 11 => rfl
  | 12 => rfl
  | m + 13 => exact (if_neg (by omega)).symm
theorem pn_I_a10 (st rs ti ni cr hc nk ms ei us dn sa fi : Nat → Int32) (p : Nat) : pn_I st rs ti ni cr hc nk ms ei us dn sa fi (p * 13 + 10) = dn p := pn_2_at _ p 10 (by decide)
theorem pn_I_u10 (st rs ti ni cr hc nk ms ei us dn sa fi : Nat → Int32) (p : Nat) (v : Int32) : upd (pn_I st rs ti ni cr hc nk ms ei us dn sa fi) (p * 13 + 10) v = pn_I st rs ti ni cr hc nk ms ei us (upd dn p v) sa fi := by
  refine pn_2_up _ _ p 10 v (by decide) ?_
  intro i
  match i with
  | 0 => rfl
  | 1 => rfl
  | 2 => rfl
  | 3 => rfl
  | 4 => rfl
  | 5 => rfl
  | 6 => rfl
  | 7 => rfl
  | 8 => rfl
  | 9 => rfl
  | 10 => rfl
  | 11 => rfl
  | 12 => rfl
  | m + 13 => exact (if_neg (by omega)).symm
theorem pn_I_a11 (st rs ti ni cr hc nk ms ei us dn sa fi : Nat → Int32) (p : Nat) : pn_I st rs ti ni cr hc nk ms ei us dn sa fi (p * 13 + 11) = sa p := pn_2_at _ p 11 (by decide)
theorem pn_I_u11 (st rs ti ni cr hc nk ms ei us dn sa fi : Nat → Int32) (p : Nat) (v : Int32) : upd (pn_I st rs ti ni cr hc nk ms ei us dn sa fi) (p * 13 + 11) v = pn_I st rs ti ni cr hc nk ms ei us dn (upd sa p v) fi := by
  refine pn_2_up _ _ p 11 v (by decide) ?_
  intro i
  match i with
  | 0 => rfl
  | 1 => rfl
  | 2 => rfl
  | 3 => rfl
  | 4 => rfl
  | 5 => rfl
  | 6 => rfl
  | 7 => rfl
  | 8 => rfl
  | 9 => rfl
  | 10 => rfl
  | 11 => rfl
  | 12 => rfl
  | m + 13 => exact (if_neg (by omega)).symm
theorem pn_I_a12 (st rs ti ni cr hc nk ms ei us dn sa fi : Nat → Int32) (p : Nat) : pn_I st rs ti ni cr hc nk ms ei us dn sa fi (p * 13 + 12) = fi p := pn_2_at _ p 12 (by decide)
theorem pn_I_u12 (st rs ti ni cr hc nk ms ei us dn sa fi : Nat → Int32) (p : Nat) (v : Int32) : upd (pn_I st rs ti ni cr hc nk ms ei us dn sa fi) (p * 13 + 12) v = pn_I st rs ti ni cr hc nk ms ei us dn sa (upd fi p v) := by
  refine pn_2_up _ _ p 12 v (by decide) ?_
  intro i
  match i with
  | 0 => rfl
  | 1 => rfl
  | 2 => rfl
  | 3 => rfl
  | 4 => rfl
  | 5 => rfl
  | 6 => rfl
  | 7 => rfl
  | 8 => rfl
  | 9 => rfl
  | 10 => rfl
  | 11 => rfl
  | 12 => rfl
  | m + 13 => exact (if_neg (by omega)).symm
theorem pn_I_0 : (fun _ => 0 : Nat → Int32) = pn_I (fun _ => 0) (fun _ => 0) (fun _ => 0) (fun _ => 0) (fun _ => 0) (fun _ => 0) (fun _ => 0) (fun _ => 0) (fun _ => 0) (fun _ => 0) (fun _ => 0) (fun _ => 0) (fun _ => 0) := by
  funext j
  show (0 : Int32) = pn_2 13 _ j
  unfold pn_2
  dsimp only
  generalize j % 13 = a
  match a with
  | 0 => rfl
  | 1 => rfl
  | 2 => rfl
  | 3 => rfl
  | 4 => rfl
  | 5 => rfl
  | 6 => rfl
  | 7 => rfl
  | 8 => rfl
  | 9 => rfl
  | 10 => rfl
  | 11 => rfl
  | 12 => rfl
  | m + 13 => rfl
def pn_O (lo hi wa ic se lc rm : Nat → Int32) : Nat → Int32 := pn_2 7 (fun k => match k with | 0 => lo | 1 => hi | 2 => wa | 3 => ic | 4 => se | 5 => lc | 6 => rm | _ => fun _ => 0)
theorem pn_O_a0 (lo hi wa ic se lc rm : Nat → Int32) (p : Nat) : pn_O lo hi wa ic se lc rm (p * 7 + 0) = lo p := pn_2_at _ p 0 (by decide)
theorem pn_O_u0 (lo hi wa ic se lc rm : Nat → Int32) (p : Nat) (v : Int32) : upd (pn_O lo hi wa ic se lc rm) (p * 7 + 0) v = pn_O (upd lo p v) hi wa ic se lc rm := by
  refine pn_2_up _ _ p 0 v (by decide) ?_
  intro i
  match i with
  | 0 => rfl
  | 1 => rfl
  | 2 => rfl
  | 3 => rfl
  | 4 => rfl
  | 5 => rfl
  | 6 => rfl
  | m + 7 => exact (if_neg (by omega)).symm
theorem pn_O_a1 (lo hi wa ic se lc rm : Nat → Int32) (p : Nat) : pn_O lo hi wa ic se lc rm (p * 7 + 1) = hi p := pn_2_at _ p 1 (by decide)
theorem pn_O_u1 (lo hi wa ic se lc rm : Nat → Int32) (p : Nat) (v : Int32) : upd (pn_O lo hi wa ic se lc rm) (p * 7 + 1) v = pn_O lo (upd hi p v) wa ic se lc rm := by
  refine pn_2_up _ _ p 1 v (by decide) ?_
  intro i
  match i with
  | 0 => rfl
  | 1 => rfl
  | 2 => rfl
  | 3 => rfl
  | 4 => rfl
  | 5 => rfl
  | 6 => rfl
  | m + 7 => exact (if_neg (by omega)).symm
theorem pn_O_a2 (lo hi wa ic se lc rm : Nat → Int32) (p : Nat) : pn_O lo hi wa ic se lc rm (p * 7 + 2) = wa p := pn_2_at _ p 2 (by decide)
theorem pn_O_u2 (lo hi wa ic se lc rm : Nat → Int32) (p : Nat) (v : Int32) : upd (pn_O lo hi wa ic se lc rm) (p * 7 + 2) v = pn_O lo hi (upd wa p v) ic se lc rm := by
  refine pn_2_up _ _ p 2 v (by decide) ?_
  intro i
  match i with
  | 0 => rfl
  | 1 => rfl
  | 2 => rfl
  | 3 => rfl
  | 4 => rfl
  | 5 => rfl
  | 6 => rfl
  | m + 7 => exact (if_neg (by omega)).symm
theorem pn_O_a3 (lo hi wa ic se lc rm : Nat → Int32) (p : Nat) : pn_O lo hi wa ic se lc rm (p * 7 + 3) = ic p := pn_2_at _ p 3 (by decide)
theorem pn_O_u3 (lo hi wa ic se lc rm : Nat → Int32) (p : Nat) (v : Int32) : upd (pn_O lo hi wa ic se lc rm) (p * 7 + 3) v = pn_O lo hi wa (upd ic p v) se lc rm := by
  refine pn_2_up _ _ p 3 v (by decide) ?_
  intro i
  match i with
  | 0 => rfl
  | 1 => rfl
  | 2 => rfl
  | 3 => rfl
  | 4 => rfl
  | 5 => rfl
  | 6 => rfl
  | m + 7 => exact (if_neg (by omega)).symm
theorem pn_O_a4 (lo hi wa ic se lc rm : Nat → Int32) (p : Nat) : pn_O lo hi wa ic se lc rm (p * 7 + 4) = se p := pn_2_at _ p 4 (by decide)
theorem pn_O_u4 (lo hi wa ic se lc rm : Nat → Int32) (p : Nat) (v : Int32) : upd (pn_O lo hi wa ic se lc rm) (p * 7 + 4) v = pn_O lo hi wa ic (upd se p v) lc rm := by
  refine pn_2_up _ _ p 4 v (by decide) ?_
  intro i
  match i with
  | 0 => rfl
  | 1 => rfl
  | 2 => rfl
  | 3 => rfl
  | 4 => rfl
  | 5 => rfl
  | 6 => rfl
  | m + 7 => exact (if_neg (by omega)).symm
theorem pn_O_a5 (lo hi wa ic se lc rm : Nat → Int32) (p : Nat) : pn_O lo hi wa ic se lc rm (p * 7 + 5) = lc p := pn_2_at _ p 5 (by decide)
theorem pn_O_u5 (lo hi wa ic se lc rm : Nat → Int32) (p : Nat) (v : Int32) : upd (pn_O lo hi wa ic se lc rm) (p * 7 + 5) v = pn_O lo hi wa ic se (upd lc p v) rm := by
  refine pn_2_up _ _ p 5 v (by decide) ?_
  intro i
  match i with
  | 0 => rfl
  | 1 => rfl
  | 2 => rfl
  | 3 => rfl
  | 4 => rfl
  | 5 => rfl
  | 6 => rfl
  | m + 7 => exact (if_neg (by omega)).symm
theorem pn_O_a6 (lo hi wa ic se lc rm : Nat → Int32) (p : Nat) : pn_O lo hi wa ic se lc rm (p * 7 + 6) = rm p := pn_2_at _ p 6 (by decide)
theorem pn_O_u6 (lo hi wa ic se lc rm : Nat → Int32) (p : Nat) (v : Int32) : upd (pn_O lo hi wa ic se lc rm) (p * 7 + 6) v = pn_O lo hi wa ic se lc (upd rm p v) := by
  refine pn_2_up _ _ p 6 v (by decide) ?_
  intro i
  match i with
  | 0 => rfl
  | 1 => rfl
  | 2 => rfl
  | 3 => rfl
  | 4 => rfl
  | 5 => rfl
  | 6 => rfl
  | m + 7 => exact (if_neg (by omega)).symm
theorem pn_O_0 : (fun _ => 0 : Nat → Int32) = pn_O (fun _ => 0) (fun _ => 0) (fun _ => 0) (fun _ => 0) (fun _ => 0) (fun _ => 0) (fun _ => 0) := by
  funext j
  show (0 : Int32) = pn_2 7 _ j
  unfold pn_2
  dsimp only
  generalize j % 7 = a
  match a with
  | 0 => rfl
  | 1 => rfl
  | 2 => rfl
  | 3 => rfl
  | 4 => rfl
  | 5 => rfl
  | 6 => rfl
  | m + 7 => rfl
def pn_sh (w : Nat → Int32) (b n : Nat) : Nat → Int32 := fun j => if b ≤ j ∧ j < b + n then w (j + 7) else w j
theorem pn_sh0 (w : Nat → Int32) (b : Nat) : pn_sh w b 0 = w := by
  funext j
  show (if b ≤ j ∧ j < b + 0 then w (j + 7) else w j) = w j
  rw [if_neg (by omega)]
theorem pn_shs (w : Nat → Int32) (b n : Nat) : upd (pn_sh w b n) (b + n) (pn_sh w b n (b + n + 7)) = pn_sh w b (n + 1) := by
  funext j
  show (if j = b + n then (if b ≤ b + n + 7 ∧ b + n + 7 < b + n then w (b + n + 7 + 7) else w (b + n + 7)) else if b ≤ j ∧ j < b + n then w (j + 7) else w j) = if b ≤ j ∧ j < b + (n + 1) then w (j + 7) else w j
  rw [if_neg (by omega : ¬ (b ≤ b + n + 7 ∧ b + n + 7 < b + n))]
  by_cases h : j = b + n
  · rw [if_pos h, if_pos (by omega), h]
  · rw [if_neg h]
    by_cases h2 : b ≤ j ∧ j < b + n
    · rw [if_pos h2, if_pos (by omega)]
    · rw [if_neg h2, if_neg (by omega)]
end
section
def pn_4 (f : Nat → Int32) (b : Nat) (m : Nat → Int32) : Nat → Int32 := upd (upd (upd (upd f (b + 0) (m 0)) (b + 1) (m 1)) (b + 2) (m 2)) (b + 3) (m 3)
theorem pn_4_0 (f : Nat → Int32) (b : Nat) (m : Nat → Int32) : pn_4 f b m (b + 0) = m 0 := by
  unfold pn_4
  rw [pn_ne _ _ (by omega), pn_ne _ _ (by omega), pn_ne _ _ (by omega), pn_at]
theorem pn_4_1 (f : Nat → Int32) (b : Nat) (m : Nat → Int32) : pn_4 f b m (b + 1) = m 1 := by
  unfold pn_4
  rw [pn_ne _ _ (by omega), pn_ne _ _ (by omega), pn_at]
theorem pn_4_2 (f : Nat → Int32) (b : Nat) (m : Nat → Int32) : pn_4 f b m (b + 2) = m 2 := by
  unfold pn_4
  rw [pn_ne _ _ (by omega), pn_at]
theorem pn_4_3 (f : Nat → Int32) (b : Nat) (m : Nat → Int32) : pn_4 f b m (b + 3) = m 3 := by
  unfold pn_4
  rw [pn_at]
theorem pn_4_p {R : Int32 → Prop} {f : Nat → Int32} {b : Nat} {m : Nat → Int32} (hm : ∀ k, k < 4 → R (m k)) {j : Nat} (hf : R (f j)) : R (pn_4 f b m j) := by
  unfold pn_4
  by_cases h3 : j = b + 3
  · rw [h3, pn_at]; exact hm 3 (by decide)
  · rw [pn_ne _ _ h3]
    by_cases h2 : j = b + 2
    · rw [h2, pn_at]; exact hm 2 (by decide)
    · rw [pn_ne _ _ h2]
      by_cases h1 : j = b + 1
      · rw [h1, pn_at]; exact hm 1 (by decide)
      · rw [pn_ne _ _ h1]
        by_cases h0 : j = b + 0
        · rw [h0, pn_at]; exact hm 0 (by decide)
        · rw [pn_ne _ _ h0]; exact hf
def pn_7 (f : Nat → Int32) (b : Nat) (m : Nat → Int32) : Nat → Int32 := upd (upd (upd (upd (upd (upd (upd f (b + 0) (m 0)) (b + 1) (m 1)) (b + 2) (m 2)) (b + 3) (m 3)) (b + 4) (m 4)) (b + 5) (m 5)) (b + 6) (m 6)
def pn_l7 (f : Nat → Int32) (m : Nat → Int32) : Nat → Int32 := upd (upd (upd (upd (upd (upd (upd f 0 (m 0)) 1 (m 1)) 2 (m 2)) 3 (m 3)) 4 (m 4)) 5 (m 5)) 6 (m 6)
theorem pn_l7_at (f m : Nat → Int32) {k : Nat} (hk : k < 7) : pn_l7 f m k = m k := by
  have h : k = 0 ∨ k = 1 ∨ k = 2 ∨ k = 3 ∨ k = 4 ∨ k = 5 ∨ k = 6 := by omega
  rcases h with rfl | rfl | rfl | rfl | rfl | rfl | rfl <;> rfl
def pn_m (c i d x0 x1 x2 x3 : Int32) : Nat → Int32 := fun f => match f with | 0 => c | 1 => i | 2 => d | 3 => x0 | 4 => x1 | 5 => x2 | _ => x3
def pn_aw (w q : Nat → Int32) (d : Nat) (c i dt x0 x1 x2 x3 : Int32) : Nat → Int32 := if q d < 8 then pn_7 w (d * 56 + (q d).toNatClampNeg * 7) (pn_m c i dt x0 x1 x2 x3) else w
def pn_aq (q : Nat → Int32) (d : Nat) : Nat → Int32 := if q d < 8 then upd q d (q d + 1) else q
theorem pn_aw_lt {w q : Nat → Int32} {d s : Nat} {c i dt x0 x1 x2 x3 : Int32} (hs : q d = nI s) (h8 : s < 8) : pn_aw w q d c i dt x0 x1 x2 x3 = pn_7 w (d * 56 + s * 7) (pn_m c i dt x0 x1 x2 x3) := by
  unfold pn_aw
  rw [hs, if_pos (show nI s < 8 from nI_lt (b := 8) h8 (by decide)), nI_clamp (by omega)]
theorem pn_aq_lt {q : Nat → Int32} {d s : Nat} (hs : q d = nI s) (h8 : s < 8) : pn_aq q d = upd q d (q d + 1) := by
  unfold pn_aq
  rw [if_pos (by rw [hs]; exact nI_lt (b := 8) h8 (by decide))]
theorem pn_n8 {s : Nat} (h8 : ¬ s < 8) (hs8 : s ≤ 8) : ¬ nI s < 8 := nI_nlt (b := 8) (by omega) (by omega)
theorem pn_aw_ge {w q : Nat → Int32} {d s : Nat} {c i dt x0 x1 x2 x3 : Int32} (hs : q d = nI s) (h8 : ¬ s < 8) (hs8 : s ≤ 8) : pn_aw w q d c i dt x0 x1 x2 x3 = w := by
  unfold pn_aw
  rw [hs, if_neg (pn_n8 h8 hs8)]
theorem pn_aq_ge {q : Nat → Int32} {d s : Nat} (hs : q d = nI s) (h8 : ¬ s < 8) (hs8 : s ≤ 8) : pn_aq q d = q := by
  unfold pn_aq
  rw [hs, if_neg (pn_n8 h8 hs8)]
def pn_sp (rs : Nat → Int32) (p : Nat) : Nat → Int32 := if rs p ≤ 0 then rs else upd rs p (rs p - 1)
def pn_hi (hi : Nat → Int32) (p : Nat) : Nat → Int32 := fun k => hi (p * 4 + k)
def pn_in (lo hi : Nat → Int32) (p : Nat) : Nat → Int32 := fun k => if hi (p * 4 + k) < lo (p * 4 + k) then 0 else 1
def pn_g (ic wa : Nat → Int32) (p : Nat) : Nat → Int32 := fun k => if ic (p * 4 + k) = 0 then -1 else wa (p * 4 + k)
def pn_cl (v l g : Int32) : Int32 := if l ≤ v then (if v ≤ g then v else g) else l
def pn_aW (c : Int32) (m lo hi wa : Nat → Int32) (p : Nat) : Nat → Int32 := fun k => if m (3 + k) = -1 then wa (p * 4 + k) else if c = 3 then pn_cl (m (3 + k)) (lo (p * 4 + k)) (hi (p * 4 + k)) else wa (p * 4 + k)
def pn_aI (c : Int32) (m ic : Nat → Int32) (p : Nat) : Nat → Int32 := fun k => if m (3 + k) = -1 then ic (p * 4 + k) else if c = 3 then ic (p * 4 + k) else 0
theorem pn_b0 : vp_nar .boolean 0 = 0 := by decide
theorem pn_b1 : vp_nar .boolean 1 = 1 := by decide
def pn_P (P : Int32) (p : Nat) : Prop := (P = 0 ∧ p = 0) ∨ (P = 1 ∧ p = 1)
theorem pp_0 : pn_P 0 0 := Or.inl ⟨rfl, rfl⟩
theorem pp_1 : pn_P 1 1 := Or.inr ⟨rfl, rfl⟩
theorem pp_lt {P : Int32} {p : Nat} (H : pn_P P p) : p < 2 := by
  rcases H with ⟨_, rfl⟩ | ⟨_, rfl⟩ <;> decide
theorem pp_n {P : Int32} {p : Nat} (H : pn_P P p) : P.toNatClampNeg = p := by
  rcases H with ⟨rfl, rfl⟩ | ⟨rfl, rfl⟩ <;> decide
theorem pp_v {P : Int32} {p : Nat} (H : pn_P P p) : vp_in P 2 := by
  rcases H with ⟨rfl, rfl⟩ | ⟨rfl, rfl⟩ <;> exact vp_in_iff.mpr (by decide)
theorem pp_nI {P : Int32} {p : Nat} (H : pn_P P p) : P = nI p := by
  rcases H with ⟨rfl, rfl⟩ | ⟨rfl, rfl⟩ <;> rfl
theorem pp_40 {P : Int32} {p : Nat} (H : pn_P P p) : P * 4 = nI (p * 4) := by
  rcases H with ⟨rfl, rfl⟩ | ⟨rfl, rfl⟩ <;> decide
theorem pp_b0 {P : Int32} {p : Nat} (H : pn_P P p) : (P * 8) * 7 = nI (p * 56) := by
  rcases H with ⟨rfl, rfl⟩ | ⟨rfl, rfl⟩ <;> decide
theorem pp_y0 {P : Int32} {p : Nat} (H : pn_P P p) : P * 56 = nI (p * 56) := by
  rcases H with ⟨rfl, rfl⟩ | ⟨rfl, rfl⟩ <;> decide
theorem pn_mul (a b : Nat) : nI a * nI b = nI (a * b) := (Int32.ofNat_mul a b).symm
theorem pp_b {P : Int32} {p s : Nat} (H : pn_P P p) : ((P * 8) + nI s) * 7 = nI (p * 56 + s * 7) := by
  have e : P * 8 = nI (p * 8) := by rcases H with ⟨rfl, rfl⟩ | ⟨rfl, rfl⟩ <;> decide
  rw [e, nI_add]
  have e2 : nI (p * 8 + s) * 7 = nI ((p * 8 + s) * 7) := pn_mul _ 7
  rw [e2]
  congr 1
  omega
theorem pp_y {P : Int32} {p s : Nat} (H : pn_P P p) : (P * 56) + (nI s * 7) = nI (p * 56 + s * 7) := by
  have e2 : nI s * 7 = nI (s * 7) := pn_mul _ 7
  rw [pp_y0 H, e2, nI_add]
theorem pp_i0 {P : Int32} {p : Nat} (H : pn_P P p) : (P * 13).toNatClampNeg = p * 13 + 0 := by
  rcases H with ⟨rfl, rfl⟩ | ⟨rfl, rfl⟩ <;> decide
theorem pp_vi0 {P : Int32} {p : Nat} (H : pn_P P p) : vp_in (P * 13) 26 := by
  rcases H with ⟨rfl, rfl⟩ | ⟨rfl, rfl⟩ <;> exact vp_in_iff.mpr (by decide)
theorem pp_i1 {P : Int32} {p : Nat} (H : pn_P P p) : ((P * 13) + 1).toNatClampNeg = p * 13 + 1 := by
  rcases H with ⟨rfl, rfl⟩ | ⟨rfl, rfl⟩ <;> decide
theorem pp_vi1 {P : Int32} {p : Nat} (H : pn_P P p) : vp_in ((P * 13) + 1) 26 := by
  rcases H with ⟨rfl, rfl⟩ | ⟨rfl, rfl⟩ <;> exact vp_in_iff.mpr (by decide)
theorem pp_i2 {P : Int32} {p : Nat} (H : pn_P P p) : ((P * 13) + 2).toNatClampNeg = p * 13 + 2 := by
  rcases H with ⟨rfl, rfl⟩ | ⟨rfl, rfl⟩ <;> decide
theorem pp_vi2 {P : Int32} {p : Nat} (H : pn_P P p) : vp_in ((P * 13) + 2) 26 := by
  rcases H with ⟨rfl, rfl⟩ | ⟨rfl, rfl⟩ <;> exact vp_in_iff.mpr (by decide)
theorem pp_i3 {P : Int32} {p : Nat} (H : pn_P P p) : ((P * 13) + 3).toNatClampNeg = p * 13 + 3 := by
  rcases H with ⟨rfl, rfl⟩ | ⟨rfl, rfl⟩ <;> decide
theorem pp_vi3 {P : Int32} {p : Nat} (H : pn_P P p) : vp_in ((P * 13) + 3) 26 := by
  rcases H with ⟨rfl, rfl⟩ | ⟨rfl, rfl⟩ <;> exact vp_in_iff.mpr (by decide)
theorem pp_i4 {P : Int32} {p : Nat} (H : pn_P P p) : ((P * 13) + 4).toNatClampNeg = p * 13 + 4 := by
  rcases H with ⟨rfl, rfl⟩ | ⟨rfl, rfl⟩ <;> decide
theorem pp_vi4 {P : Int32} {p : Nat} (H : pn_P P p) : vp_in ((P * 13) + 4) 26 := by
  rcases H with ⟨rfl, rfl⟩ | ⟨rfl, rfl⟩ <;> exact vp_in_iff.mpr (by decide)
theorem pp_i5 {P : Int32} {p : Nat} (H : pn_P P p) : ((P * 13) + 5).toNatClampNeg = p * 13 + 5 := by
  rcases H with ⟨rfl, rfl⟩ | ⟨rfl, rfl⟩ <;> decide
theorem pp_vi5 {P : Int32} {p : Nat} (H : pn_P P p) : vp_in ((P * 13) + 5) 26 := by
  rcases H with ⟨rfl, rfl⟩ | ⟨rfl, rfl⟩ <;> exact vp_in_iff.mpr (by decide)
theorem pp_i6 {P : Int32} {p : Nat} (H : pn_P P p) : ((P * 13) + 6).toNatClampNeg = p * 13 + 6 := by
  rcases H with ⟨rfl, rfl⟩ | ⟨rfl, rfl⟩ <;> decide
theorem pp_vi6 {P : Int32} {p : Nat} (H : pn_P P p) : vp_in ((P * 13) + 6) 26 := by
  rcases H with ⟨rfl, rfl⟩ | ⟨rfl, rfl⟩ <;> exact vp_in_iff.mpr (by decide)
theorem pp_i7 {P : Int32} {p : Nat} (H : pn_P P p) : ((P * 13) + 7).toNatClampNeg = p * 13 + 7 := by
  rcases H with ⟨rfl, rfl⟩ | ⟨rfl, rfl⟩ <;> decide
theorem pp_vi7 {P : Int32} {p : Nat} (H : pn_P P p) : vp_in ((P * 13) + 7) 26 := by
  rcases H with ⟨rfl, rfl⟩ | ⟨rfl, rfl⟩ <;> exact vp_in_iff.mpr (by decide)
theorem pp_i8 {P : Int32} {p : Nat} (H : pn_P P p) : ((P * 13) + 8).toNatClampNeg = p * 13 + 8 := by
  rcases H with ⟨rfl, rfl⟩ | ⟨rfl, rfl⟩ <;> decide
theorem pp_vi8 {P : Int32} {p : Nat} (H : pn_P P p) : vp_in ((P * 13) + 8) 26 := by
  rcases H with ⟨rfl, rfl⟩ | ⟨rfl, rfl⟩ <;> exact vp_in_iff.mpr (by decide)
theorem pp_i9 {P : Int32} {p : Nat} (H : pn_P P p) : ((P * 13) + 9).toNatClampNeg = p * 13 + 9 := by
  rcases H with ⟨rfl, rfl⟩ | ⟨rfl, rfl⟩ <;> decide
theorem pp_vi9 {P : Int32} {p : Nat} (H : pn_P P p) : vp_in ((P * 13) + 9) 26 := by
  rcases H with ⟨rfl, rfl⟩ | ⟨rfl, rfl⟩ <;> exact vp_in_iff.mpr (by decide)
theorem pp_i10 {P : Int32} {p : Nat} (H : pn_P P p) : ((P * 13) + 10).toNatClampNeg = p * 13 + 10 := by
  rcases H with ⟨rfl, rfl⟩ | ⟨rfl, rfl⟩ <;> decide
theorem pp_vi10 {P : Int32} {p : Nat} (H : pn_P P p) : vp_in ((P * 13) + 10) 26 := by
  rcases H with ⟨rfl, rfl⟩ | ⟨rfl, rfl⟩ <;> exact vp_in_iff.mpr (by decide)
theorem pp_i11 {P : Int32} {p : Nat} (H : pn_P P p) : ((P * 13) + 11).toNatClampNeg = p * 13 + 11 := by
  rcases H with ⟨rfl, rfl⟩ | ⟨rfl, rfl⟩ <;> decide
theorem pp_vi11 {P : Int32} {p : Nat} (H : pn_P P p) : vp_in ((P * 13) + 11) 26 := by
  rcases H with ⟨rfl, rfl⟩ | ⟨rfl, rfl⟩ <;> exact vp_in_iff.mpr (by decide)
theorem pp_i12 {P : Int32} {p : Nat} (H : pn_P P p) : ((P * 13) + 12).toNatClampNeg = p * 13 + 12 := by
  rcases H with ⟨rfl, rfl⟩ | ⟨rfl, rfl⟩ <;> decide
theorem pp_vi12 {P : Int32} {p : Nat} (H : pn_P P p) : vp_in ((P * 13) + 12) 26 := by
  rcases H with ⟨rfl, rfl⟩ | ⟨rfl, rfl⟩ <;> exact vp_in_iff.mpr (by decide)
theorem pp_k4 {k : Nat} (hk : k < 4) : k = 0 ∨ k = 1 ∨ k = 2 ∨ k = 3 := by omega
theorem pp_4 {P : Int32} {p k : Nat} (H : pn_P P p) (hk : k < 4) : ((P * 4) + nI k).toNatClampNeg = p * 4 + k := by
  rw [pp_40 H, nI_add, nI_clamp (by have := pp_lt H; omega)]
theorem pp_v4 {P : Int32} {p k : Nat} (H : pn_P P p) (hk : k < 4) : vp_in ((P * 4) + nI k) 8 := by
  rw [pp_40 H, nI_add]
  exact vp_in_nI (by have := pp_lt H; omega) (by decide)
theorem pp_o {P : Int32} {p k : Nat} (H : pn_P P p) : ((P * 4) + nI k) * 7 = nI ((p * 4 + k) * 7) := by
  rw [pp_40 H, nI_add]
  exact pn_mul _ 7
theorem pp_o0 {P : Int32} {p k : Nat} (H : pn_P P p) (hk : k < 4) : (((P * 4) + nI k) * 7).toNatClampNeg = (p * 4 + k) * 7 + 0 := by
  rw [pp_o H, nI_clamp (by have := pp_lt H; omega)]; rfl
theorem pp_vo0 {P : Int32} {p k : Nat} (H : pn_P P p) (hk : k < 4) : vp_in (((P * 4) + nI k) * 7) 56 := by
  rw [pp_o H]; exact vp_in_nI (by have := pp_lt H; omega) (by decide)
theorem pp_o1 {P : Int32} {p k : Nat} (H : pn_P P p) (hk : k < 4) : ((((P * 4) + nI k) * 7) + 1).toNatClampNeg = (p * 4 + k) * 7 + 1 := by
  rw [pp_o H, show nI ((p * 4 + k) * 7) + 1 = nI ((p * 4 + k) * 7 + 1) from nI_add _ 1, nI_clamp (by have := pp_lt H; omega)]
theorem pp_vo1 {P : Int32} {p k : Nat} (H : pn_P P p) (hk : k < 4) : vp_in ((((P * 4) + nI k) * 7) + 1) 56 := by
  rw [pp_o H, show nI ((p * 4 + k) * 7) + 1 = nI ((p * 4 + k) * 7 + 1) from nI_add _ 1]; exact vp_in_nI (by have := pp_lt H; omega) (by decide)
theorem pp_o2 {P : Int32} {p k : Nat} (H : pn_P P p) (hk : k < 4) : ((((P * 4) + nI k) * 7) + 2).toNatClampNeg = (p * 4 + k) * 7 + 2 := by
  rw [pp_o H, show nI ((p * 4 + k) * 7) + 2 = nI ((p * 4 + k) * 7 + 2) from nI_add _ 2, nI_clamp (by have := pp_lt H; omega)]
theorem pp_vo2 {P : Int32} {p k : Nat} (H : pn_P P p) (hk : k < 4) : vp_in ((((P * 4) + nI k) * 7) + 2) 56 := by
  rw [pp_o H, show nI ((p * 4 + k) * 7) + 2 = nI ((p * 4 + k) * 7 + 2) from nI_add _ 2]; exact vp_in_nI (by have := pp_lt H; omega) (by decide)
theorem pp_o3 {P : Int32} {p k : Nat} (H : pn_P P p) (hk : k < 4) : ((((P * 4) + nI k) * 7) + 3).toNatClampNeg = (p * 4 + k) * 7 + 3 := by
  rw [pp_o H, show nI ((p * 4 + k) * 7) + 3 = nI ((p * 4 + k) * 7 + 3) from nI_add _ 3, nI_clamp (by have := pp_lt H; omega)]
theorem pp_vo3 {P : Int32} {p k : Nat} (H : pn_P P p) (hk : k < 4) : vp_in ((((P * 4) + nI k) * 7) + 3) 56 := by
  rw [pp_o H, show nI ((p * 4 + k) * 7) + 3 = nI ((p * 4 + k) * 7 + 3) from nI_add _ 3]; exact vp_in_nI (by have := pp_lt H; omega) (by decide)
theorem pp_o4 {P : Int32} {p k : Nat} (H : pn_P P p) (hk : k < 4) : ((((P * 4) + nI k) * 7) + 4).toNatClampNeg = (p * 4 + k) * 7 + 4 := by
  rw [pp_o H, show nI ((p * 4 + k) * 7) + 4 = nI ((p * 4 + k) * 7 + 4) from nI_add _ 4, nI_clamp (by have := pp_lt H; omega)]
theorem pp_vo4 {P : Int32} {p k : Nat} (H : pn_P P p) (hk : k < 4) : vp_in ((((P * 4) + nI k) * 7) + 4) 56 := by
  rw [pp_o H, show nI ((p * 4 + k) * 7) + 4 = nI ((p * 4 + k) * 7 + 4) from nI_add _ 4]; exact vp_in_nI (by have := pp_lt H; omega) (by decide)
theorem pp_o5 {P : Int32} {p k : Nat} (H : pn_P P p) (hk : k < 4) : ((((P * 4) + nI k) * 7) + 5).toNatClampNeg = (p * 4 + k) * 7 + 5 := by
  rw [pp_o H, show nI ((p * 4 + k) * 7) + 5 = nI ((p * 4 + k) * 7 + 5) from nI_add _ 5, nI_clamp (by have := pp_lt H; omega)]
theorem pp_vo5 {P : Int32} {p k : Nat} (H : pn_P P p) (hk : k < 4) : vp_in ((((P * 4) + nI k) * 7) + 5) 56 := by
  rw [pp_o H, show nI ((p * 4 + k) * 7) + 5 = nI ((p * 4 + k) * 7 + 5) from nI_add _ 5]; exact vp_in_nI (by have := pp_lt H; omega) (by decide)
theorem pp_o6 {P : Int32} {p k : Nat} (H : pn_P P p) (hk : k < 4) : ((((P * 4) + nI k) * 7) + 6).toNatClampNeg = (p * 4 + k) * 7 + 6 := by
  rw [pp_o H, show nI ((p * 4 + k) * 7) + 6 = nI ((p * 4 + k) * 7 + 6) from nI_add _ 6, nI_clamp (by have := pp_lt H; omega)]
theorem pp_vo6 {P : Int32} {p k : Nat} (H : pn_P P p) (hk : k < 4) : vp_in ((((P * 4) + nI k) * 7) + 6) 56 := by
  rw [pp_o H, show nI ((p * 4 + k) * 7) + 6 = nI ((p * 4 + k) * 7 + 6) from nI_add _ 6]; exact vp_in_nI (by have := pp_lt H; omega) (by decide)
theorem pp_3 {k : Nat} (hk : k < 4) : ((3 : Int32) + nI k).toNatClampNeg = 3 + k := by
  rw [show (3 : Int32) + nI k = nI (3 + k) from nI_add 3 k, nI_clamp (by omega)]
theorem pp_v3 {k : Nat} (hk : k < 4) : vp_in ((3 : Int32) + nI k) 7 := by
  rw [show (3 : Int32) + nI k = nI (3 + k) from nI_add 3 k]; exact vp_in_nI (by omega) (by decide)
theorem pp_z (k : Nat) : (0 : Int32) + nI k = nI k := by
  have h := nI_add 0 k
  rw [Nat.zero_add] at h
  exact h
theorem pp_bk {b k : Nat} (hb : b ≤ 105) (hk : k < 7) : (nI b + nI k).toNatClampNeg = b + k := by
  rw [nI_add, nI_clamp (by omega)]
theorem pp_vbk {b k : Nat} (hb : b ≤ 105) (hk : k < 7) : vp_in (nI b + nI k) 112 := by
  rw [nI_add]; exact vp_in_nI (by omega) (by decide)
theorem pp_b3k {b k : Nat} (hb : b ≤ 105) (hk : k < 4) : ((nI b + 3) + nI k).toNatClampNeg = b + (3 + k) := by
  rw [show nI b + 3 = nI (b + 3) from nI_add b 3, nI_add, nI_clamp (by omega)]; omega
theorem pp_vb3k {b k : Nat} (hb : b ≤ 105) (hk : k < 4) : vp_in ((nI b + 3) + nI k) 112 := by
  rw [show nI b + 3 = nI (b + 3) from nI_add b 3, nI_add]; exact vp_in_nI (by omega) (by decide)
theorem pp_g4 {k : Nat} (hk : k < 4) : ¬ (4 : Int32) ≤ nI k := nI_ge (b := 4) hk (by decide)
theorem pp_g7 {k : Nat} (hk : k < 7) : ¬ (7 : Int32) ≤ nI k := nI_ge (b := 7) hk (by decide)
theorem pp_44 : (4 : Int32) ≤ nI 4 := by decide
theorem pp_77 : (7 : Int32) ≤ nI 7 := by decide
theorem pp_out {v : Int32} (h0 : ¬ v = 0) (h1 : ¬ v = 1) : v < 0 ∨ (¬ v < 0 ∧ 1 < v ∧ ¬ v ≤ 1) := by
  have z : (0 : Int32).toInt = 0 := by decide
  have o : (1 : Int32).toInt = 1 := by decide
  have n0 : ¬ v.toInt = 0 := fun e => h0 (Int32.toInt_inj.mp (e.trans z.symm))
  have n1 : ¬ v.toInt = 1 := fun e => h1 (Int32.toInt_inj.mp (e.trans o.symm))
  rw [Int32.lt_iff_toInt_lt, Int32.lt_iff_toInt_lt, Int32.le_iff_toInt_le, z, o]
  omega
def pn_tj (st ti : Nat → Int32) (p : Nat) : Nat → Int32 := if st p < 4 then upd ti p 0 else if 8 < st p then upd ti p 0 else ti
theorem pn_tj_on {st ti : Nat → Int32} {p : Nat} (h4 : ¬ st p < 4) (h8 : ¬ 8 < st p) : pn_tj st ti p = ti := by
  unfold pn_tj
  rw [if_neg h4, if_neg h8]
theorem pn_tj_off {st ti : Nat → Int32} {p : Nat} (h : st p < 4 ∨ (¬ st p < 4 ∧ 8 < st p)) : pn_tj st ti p = upd ti p 0 := by
  unfold pn_tj
  rcases h with h4 | ⟨h4, h8⟩
  · rw [if_pos h4]
  · rw [if_neg h4, if_pos h8]
theorem pn_tj_k {st ti : Nat → Int32} {p s : Nat} (es : st p = nI s) (hs9 : s ≤ 9) (ht : s < 4 ∨ 8 < s → ti p = 0) : pn_tj st ti p = ti := by
  by_cases c4 : s < 4
  · rw [pn_tj_off (Or.inl (by rw [es]; exact nI_lt (b := 4) c4 (by decide))), pn_self ti p 0 (ht (Or.inl c4))]
  · have n4 : ¬ st p < 4 := by rw [es]; exact nI_nlt (b := 4) (by omega) (by omega)
    by_cases c8 : 8 < s
    · rw [pn_tj_off (Or.inr ⟨n4, by rw [es]; exact nI_lt (a := 8) c8 (by omega)⟩), pn_self ti p 0 (ht (Or.inr c8))]
    · exact pn_tj_on n4 (by rw [es]; exact nI_nlt (a := 8) (by omega) (by omega))
def pn_VS (st ti : Nat → Int32) : Prop := ∀ p, p < 2 → ∃ s : Nat, s ≤ 9 ∧ st p = nI s ∧ (s < 4 ∨ 8 < s → ti p = 0)
def pn_VO (lo hi ic : Nat → Int32) : Prop := ∀ i, i < 8 → (0 ≤ lo i ∧ 0 ≤ hi i ∧ hi i ≤ 65535) ∧ (ic i = 0 ∨ ic i = 1)
def pn_VQ (q : Nat → Int32) : Prop := ∀ d, d < 2 → ∃ s : Nat, s ≤ 8 ∧ q d = nI s
def pn_VN (no : Nat → Int32) : Prop := no 0 = -1 ∧ no 1 = -1 ∧ no 2 = -1 ∧ no 3 = -1
def pn_V (st ti lo hi ic q no : Nat → Int32) : Prop := pn_VS st ti ∧ pn_VO lo hi ic ∧ pn_VQ q ∧ pn_VN no
theorem pn_VS_u {st ti ti' : Nat → Int32} {p n : Nat} {N : Int32} (V : pn_VS st ti) (eN : N = nI n) (hn : n ≤ 9) (ht : ∀ j, j ≠ p → ti' j = ti j) (h0 : n < 4 ∨ 8 < n → ti' p = 0) : pn_VS (upd st p N) ti' := by
  intro j hj
  by_cases e : j = p
  · refine ⟨n, hn, ?_, ?_⟩
    · rw [e, pn_at, eN]
    · rw [e]; exact h0
  · obtain ⟨s, h1, h2, h3⟩ := V j hj
    refine ⟨s, h1, ?_, ?_⟩
    · rw [pn_ne _ _ e]; exact h2
    · rw [ht j e]; exact h3
theorem pn_VS_k {st ti ti' : Nat → Int32} {p n : Nat} (V : pn_VS st ti) (hp : p < 2) (en : st p = nI n) (hn : n ≤ 9) (ht : ∀ j, j ≠ p → ti' j = ti j) (h0 : n < 4 ∨ 8 < n → ti' p = 0) : pn_VS st ti' := by
  have h := pn_VS_u (p := p) V en hn ht h0
  rw [pn_self st p (st p) rfl] at h
  exact h
theorem pn_VQ_a {q : Nat → Int32} {p : Nat} (V : pn_VQ q) (hp : p < 2) : pn_VQ (pn_aq q p) := by
  obtain ⟨s, h1, h2⟩ := V p hp
  by_cases h8 : s < 8
  · rw [pn_aq_lt h2 h8]
    intro j hj
    by_cases e : j = p
    · refine ⟨s + 1, by omega, ?_⟩
      rw [e, pn_at, h2, nI_1]
    · rw [pn_ne _ _ e]; exact V j hj
  · rw [pn_aq_ge h2 h8 h1]; exact V
theorem pn_VO_in {lo hi ic : Nat → Int32} {p : Nat} (V : pn_VO lo hi ic) : pn_VO lo hi (pn_4 ic (p * 4) (pn_in lo hi p)) := by
  intro i hi8
  refine ⟨(V i hi8).1, ?_⟩
  refine pn_4_p (R := fun x => x = 0 ∨ x = 1) ?_ (V i hi8).2
  intro k _
  show (if _ then _ else _) = (0 : Int32) ∨ (if _ then _ else _) = (1 : Int32)
  by_cases h : hi (p * 4 + k) < lo (p * 4 + k)
  · exact Or.inl (if_pos h)
  · exact Or.inr (if_neg h)
theorem pn_VO_aI {lo hi ic : Nat → Int32} {c : Int32} {m : Nat → Int32} {p : Nat} (V : pn_VO lo hi ic) (hp : p < 2) : pn_VO lo hi (pn_4 ic (p * 4) (pn_aI c m ic p)) := by
  intro i hi8
  refine ⟨(V i hi8).1, ?_⟩
  refine pn_4_p (R := fun x => x = 0 ∨ x = 1) ?_ (V i hi8).2
  intro k hk
  have h2 := (V (p * 4 + k) (by omega)).2
  unfold pn_aI
  by_cases h : m (3 + k) = -1
  · rw [if_pos h]; exact h2
  · rw [if_neg h]
    by_cases h3 : c = 3
    · rw [if_pos h3]; exact h2
    · rw [if_neg h3]; exact Or.inl rfl
end
section
def pn_fA (M se : Nat → Int32) (p k : Nat) (y : Int32) : Int32 := if M (3 + k) = se (p * 4 + k) then y else 0
def pn_fN (M se : Nat → Int32) (p k : Nat) (y : Int32) : Int32 := if M (3 + k) = -1 then y else if se (p * 4 + k) = -1 then 0 else y
def pn_fR (M se : Nat → Int32) (p k : Nat) (y : Int32) : Int32 := if M (3 + k) = -1 then y else if M (3 + k) = se (p * 4 + k) then y else 0
def pn_gA (M se : Nat → Int32) (p : Nat) (y : Int32) : Int32 := pn_fA M se p 3 (pn_fA M se p 2 (pn_fA M se p 1 (pn_fA M se p 0 y)))
def pn_gN (M se : Nat → Int32) (p : Nat) (y : Int32) : Int32 := pn_fN M se p 3 (pn_fN M se p 2 (pn_fN M se p 1 (pn_fN M se p 0 y)))
def pn_gR (M se : Nat → Int32) (p : Nat) (y : Int32) : Int32 := pn_fR M se p 3 (pn_fR M se p 2 (pn_fR M se p 1 (pn_fR M se p 0 y)))
theorem pn_fA_01 {M se : Nat → Int32} {p k : Nat} {y : Int32} (h : y = 0 ∨ y = 1) : pn_fA M se p k y = 0 ∨ pn_fA M se p k y = 1 := by
  unfold pn_fA
  split
  · exact h
  · exact Or.inl rfl
theorem pn_fN_01 {M se : Nat → Int32} {p k : Nat} {y : Int32} (h : y = 0 ∨ y = 1) : pn_fN M se p k y = 0 ∨ pn_fN M se p k y = 1 := by
  unfold pn_fN
  split
  · exact h
  · split
    · exact Or.inl rfl
    · exact h
theorem pn_fR_01 {M se : Nat → Int32} {p k : Nat} {y : Int32} (h : y = 0 ∨ y = 1) : pn_fR M se p k y = 0 ∨ pn_fR M se p k y = 1 := by
  unfold pn_fR
  split
  · exact h
  · split
    · exact h
    · exact Or.inl rfl
section PX
variable {C T F K rc : Int32} {st rs ti ni cr hc nk ms ei us dn sa fi lo hi wa ic se lc rm w q ih vd ro no : Nat → Int32} {P : Int32} {p : Nat} {post : SX → Prop}
variable {post1 : Int32 → Prop}
theorem xa_clamp {v l g : Int32} (h : post1 (pn_cl v l g)) : wpX_clamp post1 v l g := by
  unfold pn_cl at h
  refine br_c (fun h1 => ?_) (fun h1 => ?_)
  · rw [if_pos h1] at h
    refine br_c (fun h2 => ?_) (fun h2 => ?_)
    · rw [if_pos h2] at h; exact h
    · rw [if_neg h2] at h; exact h
  · rw [if_neg h1] at h; exact h
theorem xa_end1 (HP : pn_P P p) (h : post1 1) : wpX_isEnd post1 P := by
  rcases HP with ⟨rfl, _⟩ | ⟨rfl, _⟩
  · exact br_t rfl h
  · exact br_f (by decide) (br_t rfl h)
theorem xa_end0 {v : Int32} (h0 : ¬ v = 0) (h1 : ¬ v = 1) (h : post1 0) : wpX_isEnd post1 v := br_f h0 (br_f h1 h)
theorem xs_start (HP : pn_P P p) {n k : Nat} (hk : k < 4) (h : wX_startNegotiation_2 post P C T F K rc n (nI (k + 1)) st rs ti ni cr hc nk ms ei us dn sa fi lo hi (upd wa (p * 4 + k) (hi (p * 4 + k))) (upd ic (p * 4 + k) (pn_in lo hi p k)) se lc rm w q ih vd ro no) : wX_startNegotiation_2 post P C T F K rc (n + 1) (nI k) st rs ti ni cr hc nk ms ei us dn sa fi lo hi wa ic se lc rm w q ih vd ro no := by
  refine br_f (pp_g4 hk) ?_
  intro x3 e3
  have e4 : x3.toNatClampNeg = p * 4 + k := by rw [e3, pp_4 HP hk]
  have v4 : vp_in x3 8 := by rw [e3]; exact pp_v4 HP hk
  rw [e4]
  refine ⟨v4, v4, ?_⟩
  intro a ea
  refine ⟨v4, v4, ?_⟩
  by_cases hc1 : hi (p * 4 + k) < lo (p * 4 + k)
  · refine br_t hc1 ⟨v4, ?_⟩
    intro b eb x ex
    rw [show pn_in lo hi p k = 0 from if_pos hc1] at h
    rw [pn_b0] at eb
    rw [nI_1] at ex
    subst ea eb ex
    exact h
  · refine br_f hc1 ⟨v4, ?_⟩
    intro b eb x ex
    rw [show pn_in lo hi p k = 1 from if_neg hc1] at h
    rw [pn_b1] at eb
    rw [nI_1] at ex
    subst ea eb ex
    exact h
theorem xe_start (HP : pn_P P p) {n : Nat} (h : post (C, T, F, K, rc, st, rs, ti, ni, cr, hc, upd nk p 0, ms, ei, us, dn, sa, fi, lo, hi, wa, ic, se, lc, rm, w, q, ih, vd, ro, no)) : wX_startNegotiation_2 post P C T F K rc (n + 1) (nI 4) st rs ti ni cr hc nk ms ei us dn sa fi lo hi wa ic se lc rm w q ih vd ro no := by
  refine br_t pp_44 ⟨pp_v HP, ?_⟩
  rw [pp_n HP]
  exact nm_e h
theorem xa_start (HP : pn_P P p) (h : post (C, T, F, K, rc, st, rs, ti, ni, cr, hc, upd nk p 0, ms, ei, us, dn, sa, fi, lo, hi, pn_4 wa (p * 4) (pn_hi hi p), pn_4 ic (p * 4) (pn_in lo hi p), se, lc, rm, w, q, ih, vd, ro, no)) : wpX_startNegotiation post (C, T, F, K, rc, st, rs, ti, ni, cr, hc, nk, ms, ei, us, dn, sa, fi, lo, hi, wa, ic, se, lc, rm, w, q, ih, vd, ro, no) P :=
  ⟨5, xs_start HP (k := 0) (by decide) (xs_start HP (k := 1) (by decide) (xs_start HP (k := 2) (by decide) (xs_start HP (k := 3) (by decide) (xe_start HP h))))⟩
theorem xa_spend (HP : pn_P P p) (h : post (C, T, F, K, rc, st, pn_sp rs p, upd ti p K, ni, cr, hc, nk, ms, ei, us, dn, sa, fi, lo, hi, wa, ic, se, lc, rm, w, q, ih, vd, ro, no)) : wpX_spendRequest post (C, T, F, K, rc, st, rs, ti, ni, cr, hc, nk, ms, ei, us, dn, sa, fi, lo, hi, wa, ic, se, lc, rm, w, q, ih, vd, ro, no) P := by
  have pv := pp_v HP
  unfold wpX_spendRequest
  refine ⟨pv, ?_⟩
  rw [pp_n HP]
  by_cases hr : rs p ≤ 0
  · rw [show pn_sp rs p = rs from if_pos hr] at h
    exact br_t hr ⟨pv, nm_e h⟩
  · rw [show pn_sp rs p = upd rs p (rs p - 1) from if_neg hr] at h
    exact br_f hr ⟨pv, pv, nm_e ⟨pv, nm_e h⟩⟩
theorem xs_app_no (HP : pn_P P p) {n b k : Nat} (hb : b ≤ 105) (hk : k < 4) (h : wX_append__noOptions_62 post P 0 (nI b) C T F K rc n (nI (k + 1)) st rs ti ni cr hc nk ms ei us dn sa fi lo hi wa ic se lc rm (upd w (b + (3 + k)) (no (k))) q ih vd ro no) : wX_append__noOptions_62 post P 0 (nI b) C T F K rc (n + 1) (nI k) st rs ti ni cr hc nk ms ei us dn sa fi lo hi wa ic se lc rm w q ih vd ro no := by
  refine br_f (pp_g4 hk) ?_
  rw [pp_z k, nI_clamp (n := k) (by omega), pp_b3k hb hk]
  refine ⟨vp_in_nI hk (by decide), pp_vb3k hb hk, ?_⟩
  intro a ea x ex
  rw [nI_1] at ex
  subst ea ex
  exact h
theorem xe_app_no (HP : pn_P P p) {n b : Nat} (h : post (C, T, F, K, rc, st, rs, ti, ni, cr, hc, nk, ms, ei, us, dn, sa, fi, lo, hi, wa, ic, se, lc, rm, w, upd q p (q p + 1), ih, vd, ro, no)) : wX_append__noOptions_62 post P 0 (nI b) C T F K rc (n + 1) (nI 4) st rs ti ni cr hc nk ms ei us dn sa fi lo hi wa ic se lc rm w q ih vd ro no := by
  refine br_t pp_44 ⟨pp_v HP, pp_v HP, ?_⟩
  rw [pp_n HP]
  exact nm_e h
theorem xa_app_no (HP : pn_P P p) {s : Nat} (hs : q p = nI s) (hs8 : s ≤ 8) {c i d : Int32} (h : post (C, T, F, K, rc, st, rs, ti, ni, cr, hc, nk, ms, ei, us, dn, sa, fi, lo, hi, wa, ic, se, lc, rm, pn_aw w q p c i d (no 0) (no 1) (no 2) (no 3), pn_aq q p, ih, vd, ro, no)) : wpX_append__noOptions post (C, T, F, K, rc, st, rs, ti, ni, cr, hc, nk, ms, ei, us, dn, sa, fi, lo, hi, wa, ic, se, lc, rm, w, q, ih, vd, ro, no) P c i d 0 := by
  have pv := pp_v HP
  unfold wpX_append__noOptions
  refine ⟨pv, ?_⟩
  rw [pp_n HP, hs]
  by_cases h8 : s < 8
  · have hb : p * 56 + s * 7 ≤ 105 := by have := pp_lt HP; omega
    rw [pn_aw_lt hs h8, pn_aq_lt hs h8] at h
    refine br_t (nI_lt (b := 8) h8 (by decide)) ⟨pv, ?_⟩
    intro x7 e7
    rw [pp_b HP] at e7
    subst e7
    have b0 : (nI (p * 56 + s * 7) + 0).toNatClampNeg = p * 56 + s * 7 + 0 := pp_bk (k := 0) hb (by decide)
    have b1 : (nI (p * 56 + s * 7) + 1).toNatClampNeg = p * 56 + s * 7 + 1 := pp_bk (k := 1) hb (by decide)
    have b2 : (nI (p * 56 + s * 7) + 2).toNatClampNeg = p * 56 + s * 7 + 2 := pp_bk (k := 2) hb (by decide)
    rw [b0, b1, b2]
    refine ⟨pp_vbk (k := 0) hb (by decide), nm_e ⟨pp_vbk (k := 1) hb (by decide), nm_e ⟨pp_vbk (k := 2) hb (by decide), nm_e ?_⟩⟩⟩
    exact ⟨5, xs_app_no HP hb (k := 0) (by decide) (xs_app_no HP hb (k := 1) (by decide) (xs_app_no HP hb (k := 2) (by decide) (xs_app_no HP hb (k := 3) (by decide) (xe_app_no HP h))))⟩
  · rw [pn_aw_ge hs h8 hs8, pn_aq_ge hs h8 hs8] at h
    exact br_f (pn_n8 h8 hs8) h
theorem xs_app_ro (HP : pn_P P p) {n b k : Nat} (hb : b ≤ 105) (hk : k < 4) (h : wX_append__replyOptions_62 post P 0 (nI b) C T F K rc n (nI (k + 1)) st rs ti ni cr hc nk ms ei us dn sa fi lo hi wa ic se lc rm (upd w (b + (3 + k)) (ro (k))) q ih vd ro no) : wX_append__replyOptions_62 post P 0 (nI b) C T F K rc (n + 1) (nI k) st rs ti ni cr hc nk ms ei us dn sa fi lo hi wa ic se lc rm w q ih vd ro no := by
  refine br_f (pp_g4 hk) ?_
  rw [pp_z k, nI_clamp (n := k) (by omega), pp_b3k hb hk]
  refine ⟨vp_in_nI hk (by decide), pp_vb3k hb hk, ?_⟩
  intro a ea x ex
  rw [nI_1] at ex
  subst ea ex
  exact h
theorem xe_app_ro (HP : pn_P P p) {n b : Nat} (h : post (C, T, F, K, rc, st, rs, ti, ni, cr, hc, nk, ms, ei, us, dn, sa, fi, lo, hi, wa, ic, se, lc, rm, w, upd q p (q p + 1), ih, vd, ro, no)) : wX_append__replyOptions_62 post P 0 (nI b) C T F K rc (n + 1) (nI 4) st rs ti ni cr hc nk ms ei us dn sa fi lo hi wa ic se lc rm w q ih vd ro no := by
  refine br_t pp_44 ⟨pp_v HP, pp_v HP, ?_⟩
  rw [pp_n HP]
  exact nm_e h
theorem xa_app_ro (HP : pn_P P p) {s : Nat} (hs : q p = nI s) (hs8 : s ≤ 8) {c i d : Int32} (h : post (C, T, F, K, rc, st, rs, ti, ni, cr, hc, nk, ms, ei, us, dn, sa, fi, lo, hi, wa, ic, se, lc, rm, pn_aw w q p c i d (ro 0) (ro 1) (ro 2) (ro 3), pn_aq q p, ih, vd, ro, no)) : wpX_append__replyOptions post (C, T, F, K, rc, st, rs, ti, ni, cr, hc, nk, ms, ei, us, dn, sa, fi, lo, hi, wa, ic, se, lc, rm, w, q, ih, vd, ro, no) P c i d 0 := by
  have pv := pp_v HP
  unfold wpX_append__replyOptions
  refine ⟨pv, ?_⟩
  rw [pp_n HP, hs]
  by_cases h8 : s < 8
  · have hb : p * 56 + s * 7 ≤ 105 := by have := pp_lt HP; omega
    rw [pn_aw_lt hs h8, pn_aq_lt hs h8] at h
    refine br_t (nI_lt (b := 8) h8 (by decide)) ⟨pv, ?_⟩
    intro x7 e7
    rw [pp_b HP] at e7
    subst e7
    have b0 : (nI (p * 56 + s * 7) + 0).toNatClampNeg = p * 56 + s * 7 + 0 := pp_bk (k := 0) hb (by decide)
    have b1 : (nI (p * 56 + s * 7) + 1).toNatClampNeg = p * 56 + s * 7 + 1 := pp_bk (k := 1) hb (by decide)
    have b2 : (nI (p * 56 + s * 7) + 2).toNatClampNeg = p * 56 + s * 7 + 2 := pp_bk (k := 2) hb (by decide)
    rw [b0, b1, b2]
    refine ⟨pp_vbk (k := 0) hb (by decide), nm_e ⟨pp_vbk (k := 1) hb (by decide), nm_e ⟨pp_vbk (k := 2) hb (by decide), nm_e ?_⟩⟩⟩
    exact ⟨5, xs_app_ro HP hb (k := 0) (by decide) (xs_app_ro HP hb (k := 1) (by decide) (xs_app_ro HP hb (k := 2) (by decide) (xs_app_ro HP hb (k := 3) (by decide) (xe_app_ro HP h))))⟩
  · rw [pn_aw_ge hs h8 hs8, pn_aq_ge hs h8 hs8] at h
    exact br_f (pn_n8 h8 hs8) h
theorem xs_app_se (HP : pn_P P p) {n b k : Nat} (hb : b ≤ 105) (hk : k < 4) (h : wX_append__sent_62 post P (nI (p * 4)) (nI b) C T F K rc n (nI (k + 1)) st rs ti ni cr hc nk ms ei us dn sa fi lo hi wa ic se lc rm (upd w (b + (3 + k)) (se (p * 4 + k))) q ih vd ro no) : wX_append__sent_62 post P (nI (p * 4)) (nI b) C T F K rc (n + 1) (nI k) st rs ti ni cr hc nk ms ei us dn sa fi lo hi wa ic se lc rm w q ih vd ro no := by
  refine br_f (pp_g4 hk) ?_
  rw [nI_add (p * 4) k, nI_clamp (n := p * 4 + k) (by have := pp_lt HP; omega), pp_b3k hb hk]
  refine ⟨vp_in_nI (by have := pp_lt HP; omega) (by decide), pp_vb3k hb hk, ?_⟩
  intro a ea x ex
  rw [nI_1] at ex
  subst ea ex
  exact h
theorem xe_app_se (HP : pn_P P p) {n b : Nat} (h : post (C, T, F, K, rc, st, rs, ti, ni, cr, hc, nk, ms, ei, us, dn, sa, fi, lo, hi, wa, ic, se, lc, rm, w, upd q p (q p + 1), ih, vd, ro, no)) : wX_append__sent_62 post P (nI (p * 4)) (nI b) C T F K rc (n + 1) (nI 4) st rs ti ni cr hc nk ms ei us dn sa fi lo hi wa ic se lc rm w q ih vd ro no := by
  refine br_t pp_44 ⟨pp_v HP, pp_v HP, ?_⟩
  rw [pp_n HP]
  exact nm_e h
theorem xa_app_se (HP : pn_P P p) {s : Nat} (hs : q p = nI s) (hs8 : s ≤ 8) {c i d : Int32} (h : post (C, T, F, K, rc, st, rs, ti, ni, cr, hc, nk, ms, ei, us, dn, sa, fi, lo, hi, wa, ic, se, lc, rm, pn_aw w q p c i d (se (p * 4 + 0)) (se (p * 4 + 1)) (se (p * 4 + 2)) (se (p * 4 + 3)), pn_aq q p, ih, vd, ro, no)) : wpX_append__sent post (C, T, F, K, rc, st, rs, ti, ni, cr, hc, nk, ms, ei, us, dn, sa, fi, lo, hi, wa, ic, se, lc, rm, w, q, ih, vd, ro, no) P c i d (nI (p * 4)) := by
  have pv := pp_v HP
  unfold wpX_append__sent
  refine ⟨pv, ?_⟩
  rw [pp_n HP, hs]
  by_cases h8 : s < 8
  · have hb : p * 56 + s * 7 ≤ 105 := by have := pp_lt HP; omega
    rw [pn_aw_lt hs h8, pn_aq_lt hs h8] at h
    refine br_t (nI_lt (b := 8) h8 (by decide)) ⟨pv, ?_⟩
    intro x7 e7
    rw [pp_b HP] at e7
    subst e7
    have b0 : (nI (p * 56 + s * 7) + 0).toNatClampNeg = p * 56 + s * 7 + 0 := pp_bk (k := 0) hb (by decide)
    have b1 : (nI (p * 56 + s * 7) + 1).toNatClampNeg = p * 56 + s * 7 + 1 := pp_bk (k := 1) hb (by decide)
    have b2 : (nI (p * 56 + s * 7) + 2).toNatClampNeg = p * 56 + s * 7 + 2 := pp_bk (k := 2) hb (by decide)
    rw [b0, b1, b2]
    refine ⟨pp_vbk (k := 0) hb (by decide), nm_e ⟨pp_vbk (k := 1) hb (by decide), nm_e ⟨pp_vbk (k := 2) hb (by decide), nm_e ?_⟩⟩⟩
    exact ⟨5, xs_app_se HP hb (k := 0) (by decide) (xs_app_se HP hb (k := 1) (by decide) (xs_app_se HP hb (k := 2) (by decide) (xs_app_se HP hb (k := 3) (by decide) (xe_app_se HP h))))⟩
  · rw [pn_aw_ge hs h8 hs8, pn_aq_ge hs h8 hs8] at h
    exact br_f (pn_n8 h8 hs8) h
theorem xs_app_ih (HP : pn_P P p) {n b k : Nat} (hb : b ≤ 105) (hk : k < 4) (h : wX_append__inHand_62 post P 3 (nI b) C T F K rc n (nI (k + 1)) st rs ti ni cr hc nk ms ei us dn sa fi lo hi wa ic se lc rm (upd w (b + (3 + k)) (ih (3 + k))) q ih vd ro no) : wX_append__inHand_62 post P 3 (nI b) C T F K rc (n + 1) (nI k) st rs ti ni cr hc nk ms ei us dn sa fi lo hi wa ic se lc rm w q ih vd ro no := by
  refine br_f (pp_g4 hk) ?_
  rw [pp_3 hk, pp_b3k hb hk]
  refine ⟨pp_v3 hk, pp_vb3k hb hk, ?_⟩
  intro a ea x ex
  rw [nI_1] at ex
  subst ea ex
  exact h
theorem xe_app_ih (HP : pn_P P p) {n b : Nat} (h : post (C, T, F, K, rc, st, rs, ti, ni, cr, hc, nk, ms, ei, us, dn, sa, fi, lo, hi, wa, ic, se, lc, rm, w, upd q p (q p + 1), ih, vd, ro, no)) : wX_append__inHand_62 post P 3 (nI b) C T F K rc (n + 1) (nI 4) st rs ti ni cr hc nk ms ei us dn sa fi lo hi wa ic se lc rm w q ih vd ro no := by
  refine br_t pp_44 ⟨pp_v HP, pp_v HP, ?_⟩
  rw [pp_n HP]
  exact nm_e h
theorem xa_app_ih (HP : pn_P P p) {s : Nat} (hs : q p = nI s) (hs8 : s ≤ 8) {c i d : Int32} (h : post (C, T, F, K, rc, st, rs, ti, ni, cr, hc, nk, ms, ei, us, dn, sa, fi, lo, hi, wa, ic, se, lc, rm, pn_aw w q p c i d (ih (3 + 0)) (ih (3 + 1)) (ih (3 + 2)) (ih (3 + 3)), pn_aq q p, ih, vd, ro, no)) : wpX_append__inHand post (C, T, F, K, rc, st, rs, ti, ni, cr, hc, nk, ms, ei, us, dn, sa, fi, lo, hi, wa, ic, se, lc, rm, w, q, ih, vd, ro, no) P c i d 3 := by
  have pv := pp_v HP
  unfold wpX_append__inHand
  refine ⟨pv, ?_⟩
  rw [pp_n HP, hs]
  by_cases h8 : s < 8
  · have hb : p * 56 + s * 7 ≤ 105 := by have := pp_lt HP; omega
    rw [pn_aw_lt hs h8, pn_aq_lt hs h8] at h
    refine br_t (nI_lt (b := 8) h8 (by decide)) ⟨pv, ?_⟩
    intro x7 e7
    rw [pp_b HP] at e7
    subst e7
    have b0 : (nI (p * 56 + s * 7) + 0).toNatClampNeg = p * 56 + s * 7 + 0 := pp_bk (k := 0) hb (by decide)
    have b1 : (nI (p * 56 + s * 7) + 1).toNatClampNeg = p * 56 + s * 7 + 1 := pp_bk (k := 1) hb (by decide)
    have b2 : (nI (p * 56 + s * 7) + 2).toNatClampNeg = p * 56 + s * 7 + 2 := pp_bk (k := 2) hb (by decide)
    rw [b0, b1, b2]
    refine ⟨pp_vbk (k := 0) hb (by decide), nm_e ⟨pp_vbk (k := 1) hb (by decide), nm_e ⟨pp_vbk (k := 2) hb (by decide), nm_e ?_⟩⟩⟩
    exact ⟨5, xs_app_ih HP hb (k := 0) (by decide) (xs_app_ih HP hb (k := 1) (by decide) (xs_app_ih HP hb (k := 2) (by decide) (xs_app_ih HP hb (k := 3) (by decide) (xe_app_ih HP h))))⟩
  · rw [pn_aw_ge hs h8 hs8, pn_aq_ge hs h8 hs8] at h
    exact br_f (pn_n8 h8 hs8) h
theorem xs_scr (HP : pn_P P p) {n k : Nat} (hk : k < 4) (h : wX_sendConfigureRequest_28 post P (nI (p * 4)) C T F K rc n (nI (p * 4 + (k + 1))) st rs ti ni cr hc nk ms ei us dn sa fi lo hi wa ic (upd se (p * 4 + k) (pn_g ic wa p k)) lc rm w q ih vd ro no) : wX_sendConfigureRequest_28 post P (nI (p * 4)) C T F K rc (n + 1) (nI (p * 4 + k)) st rs ti ni cr hc nk ms ei us dn sa fi lo hi wa ic se lc rm w q ih vd ro no := by
  have hp := pp_lt HP
  have g : ¬ nI (p * 4) + 4 ≤ nI (p * 4 + k) := by
    rw [show nI (p * 4) + 4 = nI (p * 4 + 4) from nI_add _ 4]
    exact nI_ge (by omega) (by omega)
  have v : vp_in (nI (p * 4 + k)) 8 := vp_in_nI (by omega) (by decide)
  refine br_f g ⟨v, ?_⟩
  rw [nI_clamp (n := p * 4 + k) (by omega)]
  by_cases hi1 : ic (p * 4 + k) = 0
  · rw [show pn_g ic wa p k = -1 from if_pos hi1] at h
    refine br_t hi1 ⟨v, ?_⟩
    intro a ea x ex
    rw [nI_1] at ex
    subst ea ex
    exact h
  · rw [show pn_g ic wa p k = wa (p * 4 + k) from if_neg hi1] at h
    refine br_f hi1 ⟨v, v, ?_⟩
    intro a ea x ex
    rw [nI_1] at ex
    subst ea ex
    exact h
theorem xe_scr (HP : pn_P P p) {n s : Nat} (hs : q p = nI s) (hs8 : s ≤ 8) (h : post (C, T, F, K, rc, st, pn_sp rs p, upd ti p K, ni, cr, hc, nk, ms, ei, us, dn, sa, fi, lo, hi, wa, ic, se, lc, rm, pn_aw w q p 1 (cr p) 0 (se (p * 4 + 0)) (se (p * 4 + 1)) (se (p * 4 + 2)) (se (p * 4 + 3)), pn_aq q p, ih, vd, ro, no)) : wX_sendConfigureRequest_28 post P (nI (p * 4)) C T F K rc (n + 1) (nI (p * 4 + 4)) st rs ti ni cr hc nk ms ei us dn sa fi lo hi wa ic se lc rm w q ih vd ro no := by
  have hp := pp_lt HP
  have g : nI (p * 4) + 4 ≤ nI (p * 4 + 4) := by
    rw [show nI (p * 4) + 4 = nI (p * 4 + 4) from nI_add _ 4]
    exact nI_le (Nat.le_refl _) (by omega)
  refine br_t g ⟨pp_v HP, ?_⟩
  rw [pp_n HP]
  exact xa_app_se HP hs hs8 (xa_spend HP h)
theorem xa_scr (HP : pn_P P p) {s : Nat} (hs : q p = nI s) (hs8 : s ≤ 8) (h : post (C, T, F, K, rc, st, pn_sp rs p, upd ti p K, upd ni p (ni p + 1), upd cr p (ni p + 1), hc, nk, ms, ei, us, dn, sa, fi, lo, hi, wa, ic, pn_4 se (p * 4) (pn_g ic wa p), lc, rm, pn_aw w q p 1 (ni p + 1) 0 (pn_g ic wa p 0) (pn_g ic wa p 1) (pn_g ic wa p 2) (pn_g ic wa p 3), pn_aq q p, ih, vd, ro, no)) : wpX_sendConfigureRequest post (C, T, F, K, rc, st, rs, ti, ni, cr, hc, nk, ms, ei, us, dn, sa, fi, lo, hi, wa, ic, se, lc, rm, w, q, ih, vd, ro, no) P := by
  have pv := pp_v HP
  unfold wpX_sendConfigureRequest
  rw [pp_n HP]
  intro x2 e2
  rw [pp_40 HP] at e2
  subst e2
  refine ⟨pv, pv, ?_⟩
  intro n1 en
  refine ⟨pv, pv, ?_⟩
  intro c1 ec
  rw [en, pn_at] at ec
  subst en ec
  refine ⟨5, xs_scr HP (k := 0) (by decide) (xs_scr HP (k := 1) (by decide) (xs_scr HP (k := 2) (by decide) (xs_scr HP (k := 3) (by decide) (xe_scr HP hs hs8 ?_))))⟩
  have h0 := pn_4_0 se (p * 4) (pn_g ic wa p)
  have h1 := pn_4_1 se (p * 4) (pn_g ic wa p)
  have h2 := pn_4_2 se (p * 4) (pn_g ic wa p)
  have h3 := pn_4_3 se (p * 4) (pn_g ic wa p)
  have hc1 := pn_at cr p (ni p + 1)
  rw [← h0, ← h1, ← h2, ← h3] at h
  have E1 : post (C, T, F, K, rc, st, pn_sp rs p, upd ti p K, upd ni p (ni p + 1), upd cr p (ni p + 1), hc, nk, ms, ei, us, dn, sa, fi, lo, hi, wa, ic, pn_4 se (p * 4) (pn_g ic wa p), lc, rm, pn_aw w q p 1 (upd cr p (ni p + 1) p) 0 (pn_4 se (p * 4) (pn_g ic wa p) (p * 4 + 0)) (pn_4 se (p * 4) (pn_g ic wa p) (p * 4 + 1)) (pn_4 se (p * 4) (pn_g ic wa p) (p * 4 + 2)) (pn_4 se (p * 4) (pn_g ic wa p) (p * 4 + 3)), pn_aq q p, ih, vd, ro, no) := by
    rw [hc1]; exact h
  exact E1
theorem xa_app0 (HP : pn_P P p) (N : pn_VN no) {s : Nat} (hs : q p = nI s) (hs8 : s ≤ 8) {c i d : Int32} (h : post (C, T, F, K, rc, st, rs, ti, ni, cr, hc, nk, ms, ei, us, dn, sa, fi, lo, hi, wa, ic, se, lc, rm, pn_aw w q p c i d (-1) (-1) (-1) (-1), pn_aq q p, ih, vd, ro, no)) : wpX_append__noOptions post (C, T, F, K, rc, st, rs, ti, ni, cr, hc, nk, ms, ei, us, dn, sa, fi, lo, hi, wa, ic, se, lc, rm, w, q, ih, vd, ro, no) P c i d 0 := by
  refine xa_app_no HP hs hs8 ?_
  obtain ⟨n0, n1, n2, n3⟩ := N
  rw [n0, n1, n2, n3]
  exact h
theorem xa_str (HP : pn_P P p) (N : pn_VN no) {s : Nat} (hs : q p = nI s) (hs8 : s ≤ 8) (h : post (C, T, F, K, rc, st, pn_sp rs p, upd ti p K, upd ni p (ni p + 1), cr, hc, nk, ms, ei, us, dn, sa, fi, lo, hi, wa, ic, se, lc, rm, pn_aw w q p 5 (ni p + 1) 0 (-1) (-1) (-1) (-1), pn_aq q p, ih, vd, ro, no)) : wpX_sendTerminateRequest post (C, T, F, K, rc, st, rs, ti, ni, cr, hc, nk, ms, ei, us, dn, sa, fi, lo, hi, wa, ic, se, lc, rm, w, q, ih, vd, ro, no) P := by
  have pv := pp_v HP
  unfold wpX_sendTerminateRequest
  rw [pp_n HP]
  refine ⟨pv, pv, ?_⟩
  intro n1 en
  subst en
  refine ⟨pv, ?_⟩
  rw [pn_at]
  exact xa_app0 HP N hs hs8 (xa_spend HP h)
theorem xa_sta (HP : pn_P P p) (N : pn_VN no) {s : Nat} (hs : q p = nI s) (hs8 : s ≤ 8) {M1 : Int32} (h1 : ih 1 = M1) (h : post (C, T, F, K, rc, st, rs, ti, ni, cr, hc, nk, ms, ei, us, dn, sa, fi, lo, hi, wa, ic, se, lc, rm, pn_aw w q p 6 M1 0 (-1) (-1) (-1) (-1), pn_aq q p, ih, vd, ro, no)) : wpX_sendTerminateAck post (C, T, F, K, rc, st, rs, ti, ni, cr, hc, nk, ms, ei, us, dn, sa, fi, lo, hi, wa, ic, se, lc, rm, w, q, ih, vd, ro, no) P := by
  unfold wpX_sendTerminateAck
  refine xa_app0 HP N hs hs8 ?_
  rw [h1]
  exact h
theorem xa_scj (HP : pn_P P p) (N : pn_VN no) {s : Nat} (hs : q p = nI s) (hs8 : s ≤ 8) {M0 : Int32} (h1 : ih 0 = M0) (h : post (C, T, F, K, rc, st, rs, ti, upd ni p (ni p + 1), cr, hc, nk, ms, ei, us, dn, sa, fi, lo, hi, wa, ic, se, lc, rm, pn_aw w q p 7 (ni p + 1) M0 (-1) (-1) (-1) (-1), pn_aq q p, ih, vd, ro, no)) : wpX_sendCodeReject post (C, T, F, K, rc, st, rs, ti, ni, cr, hc, nk, ms, ei, us, dn, sa, fi, lo, hi, wa, ic, se, lc, rm, w, q, ih, vd, ro, no) P := by
  have pv := pp_v HP
  unfold wpX_sendCodeReject
  rw [pp_n HP]
  refine ⟨pv, pv, ?_⟩
  rw [h1]
  intro n1 en
  subst en
  refine ⟨pv, ?_⟩
  rw [pn_at]
  exact xa_app0 HP N hs hs8 h
theorem xa_breq (HP : pn_P P p) {s : Nat} (hs : q p = nI s) (hs8 : s ≤ 8) (h : post (C, T, F, K, rc, upd st p 6, pn_sp (upd rs p C) p, upd ti p K, upd ni p (ni p + 1), upd cr p (ni p + 1), hc, upd nk p 0, ms, ei, us, dn, sa, fi, lo, hi, pn_4 wa (p * 4) (pn_hi hi p), pn_4 ic (p * 4) (pn_in lo hi p), pn_4 se (p * 4) (pn_g (pn_4 ic (p * 4) (pn_in lo hi p)) (pn_4 wa (p * 4) (pn_hi hi p)) p), lc, rm, pn_aw w q p 1 (ni p + 1) 0 (pn_g (pn_4 ic (p * 4) (pn_in lo hi p)) (pn_4 wa (p * 4) (pn_hi hi p)) p 0) (pn_g (pn_4 ic (p * 4) (pn_in lo hi p)) (pn_4 wa (p * 4) (pn_hi hi p)) p 1) (pn_g (pn_4 ic (p * 4) (pn_in lo hi p)) (pn_4 wa (p * 4) (pn_hi hi p)) p 2) (pn_g (pn_4 ic (p * 4) (pn_in lo hi p)) (pn_4 wa (p * 4) (pn_hi hi p)) p 3), pn_aq q p, ih, vd, ro, no)) : wpX_beginRequests post (C, T, F, K, rc, st, rs, ti, ni, cr, hc, nk, ms, ei, us, dn, sa, fi, lo, hi, wa, ic, se, lc, rm, w, q, ih, vd, ro, no) P := by
  have pv := pp_v HP
  unfold wpX_beginRequests
  rw [pp_n HP]
  refine xa_start HP ⟨pv, nm_e (xa_scr HP hs hs8 ⟨pv, nm_e h⟩)⟩
theorem xa_bterm (HP : pn_P P p) (N : pn_VN no) {s : Nat} (hs : q p = nI s) (hs8 : s ≤ 8) {S : Int32} (h : post (C, T, F, K, rc, upd st p S, pn_sp (upd rs p T) p, upd ti p K, upd ni p (ni p + 1), cr, hc, nk, ms, ei, us, dn, sa, fi, lo, hi, wa, ic, se, lc, rm, pn_aw w q p 5 (ni p + 1) 0 (-1) (-1) (-1) (-1), pn_aq q p, ih, vd, ro, no)) : wpX_beginTermination post (C, T, F, K, rc, st, rs, ti, ni, cr, hc, nk, ms, ei, us, dn, sa, fi, lo, hi, wa, ic, se, lc, rm, w, q, ih, vd, ro, no) P S := by
  have pv := pp_v HP
  unfold wpX_beginTermination
  rw [pp_n HP]
  refine ⟨pv, nm_e (xa_str HP N hs hs8 ⟨pv, nm_e h⟩)⟩
theorem xa_fin4 (HP : pn_P P p) (e : st p = 4) (h : post (C, T, F, K, rc, upd st p 2, rs, ti, ni, cr, hc, nk, ms, ei, us, dn, sa, upd fi p (fi p + 1), lo, hi, wa, ic, se, lc, rm, w, q, ih, vd, ro, no)) : wpX_finish post (C, T, F, K, rc, st, rs, ti, ni, cr, hc, nk, ms, ei, us, dn, sa, fi, lo, hi, wa, ic, se, lc, rm, w, q, ih, vd, ro, no) P := by
  have pv := pp_v HP
  unfold wpX_finish
  rw [pp_n HP]
  exact ⟨pv, pv, nm_e ⟨pv, br_t e ⟨pv, nm_e h⟩⟩⟩
theorem xa_finle (HP : pn_P P p) (e : ¬ st p = 4) (e2 : st p ≤ 4) (h : post (C, T, F, K, rc, st, rs, ti, ni, cr, hc, nk, ms, ei, us, dn, sa, upd fi p (fi p + 1), lo, hi, wa, ic, se, lc, rm, w, q, ih, vd, ro, no)) : wpX_finish post (C, T, F, K, rc, st, rs, ti, ni, cr, hc, nk, ms, ei, us, dn, sa, fi, lo, hi, wa, ic, se, lc, rm, w, q, ih, vd, ro, no) P := by
  have pv := pp_v HP
  unfold wpX_finish
  rw [pp_n HP]
  exact ⟨pv, pv, nm_e ⟨pv, br_f e ⟨pv, br_t e2 h⟩⟩⟩
theorem xa_fingt (HP : pn_P P p) (e : ¬ st p = 4) (e2 : ¬ st p ≤ 4) (h : post (C, T, F, K, rc, upd st p 3, rs, ti, ni, cr, hc, nk, ms, ei, us, dn, sa, upd fi p (fi p + 1), lo, hi, wa, ic, se, lc, rm, w, q, ih, vd, ro, no)) : wpX_finish post (C, T, F, K, rc, st, rs, ti, ni, cr, hc, nk, ms, ei, us, dn, sa, fi, lo, hi, wa, ic, se, lc, rm, w, q, ih, vd, ro, no) P := by
  have pv := pp_v HP
  unfold wpX_finish
  rw [pp_n HP]
  exact ⟨pv, pv, nm_e ⟨pv, br_f e ⟨pv, br_f e2 ⟨pv, nm_e h⟩⟩⟩⟩
theorem xa_timed1 (HP : pn_P P p) (e4 : ¬ st p < 4) (e8 : ¬ 8 < st p) (h : post1 1) : wpX_isTimed post1 (C, T, F, K, rc, st, rs, ti, ni, cr, hc, nk, ms, ei, us, dn, sa, fi, lo, hi, wa, ic, se, lc, rm, w, q, ih, vd, ro, no) P := by
  have pv := pp_v HP
  unfold wpX_isTimed
  rw [pp_n HP]
  exact ⟨pv, br_f e4 ⟨pv, br_f e8 h⟩⟩
theorem xa_timed0 (HP : pn_P P p) (e : st p < 4 ∨ (¬ st p < 4 ∧ 8 < st p)) (h : post1 0) : wpX_isTimed post1 (C, T, F, K, rc, st, rs, ti, ni, cr, hc, nk, ms, ei, us, dn, sa, fi, lo, hi, wa, ic, se, lc, rm, w, q, ih, vd, ro, no) P := by
  have pv := pp_v HP
  unfold wpX_isTimed
  rw [pp_n HP]
  rcases e with e4 | ⟨e4, e8⟩
  · exact ⟨pv, br_t e4 h⟩
  · exact ⟨pv, br_f e4 ⟨pv, br_t e8 h⟩⟩
theorem xa_setl1 (HP : pn_P P p) (e4 : ¬ st p < 4) (e8 : ¬ 8 < st p) (h : post (C, T, F, K, rc, st, rs, ti, ni, cr, hc, nk, ms, ei, us, dn, sa, fi, lo, hi, wa, ic, se, lc, rm, w, q, ih, vd, ro, no)) : wpX_settleTimer post (C, T, F, K, rc, st, rs, ti, ni, cr, hc, nk, ms, ei, us, dn, sa, fi, lo, hi, wa, ic, se, lc, rm, w, q, ih, vd, ro, no) P := by
  unfold wpX_settleTimer
  exact xa_timed1 HP e4 e8 (br_f (by decide) h)
theorem xa_setl0 (HP : pn_P P p) (e : st p < 4 ∨ (¬ st p < 4 ∧ 8 < st p)) (h : post (C, T, F, K, rc, st, rs, upd ti p 0, ni, cr, hc, nk, ms, ei, us, dn, sa, fi, lo, hi, wa, ic, se, lc, rm, w, q, ih, vd, ro, no)) : wpX_settleTimer post (C, T, F, K, rc, st, rs, ti, ni, cr, hc, nk, ms, ei, us, dn, sa, fi, lo, hi, wa, ic, se, lc, rm, w, q, ih, vd, ro, no) P := by
  have pv := pp_v HP
  unfold wpX_settleTimer
  rw [pp_n HP]
  exact xa_timed0 HP e (br_t rfl ⟨pv, nm_e h⟩)
theorem xa_setl (HP : pn_P P p) (h : post (C, T, F, K, rc, st, rs, pn_tj st ti p, ni, cr, hc, nk, ms, ei, us, dn, sa, fi, lo, hi, wa, ic, se, lc, rm, w, q, ih, vd, ro, no)) : wpX_settleTimer post (C, T, F, K, rc, st, rs, ti, ni, cr, hc, nk, ms, ei, us, dn, sa, fi, lo, hi, wa, ic, se, lc, rm, w, q, ih, vd, ro, no) P := by
  by_cases h4 : st p < 4
  · rw [pn_tj_off (Or.inl h4)] at h
    exact xa_setl0 HP (Or.inl h4) h
  · by_cases h8 : 8 < st p
    · rw [pn_tj_off (Or.inr ⟨h4, h8⟩)] at h
      exact xa_setl0 HP (Or.inr ⟨h4, h8⟩) h
    · rw [pn_tj_on h4 h8] at h
      exact xa_setl1 HP h4 h8 h
theorem xa_tlu (HP : pn_P P p) (h : post (C, T, F, K, rc, st, rs, ti, ni, cr, hc, nk, upd ms p 0, ei, upd us p (us p + 1), dn, sa, fi, lo, hi, wa, ic, se, lc, rm, w, q, ih, vd, ro, no)) : wpX_layerUp post (C, T, F, K, rc, st, rs, ti, ni, cr, hc, nk, ms, ei, us, dn, sa, fi, lo, hi, wa, ic, se, lc, rm, w, q, ih, vd, ro, no) P := by
  have pv := pp_v HP
  unfold wpX_layerUp
  rw [pp_n HP]
  exact ⟨pv, pv, nm_e ⟨pv, nm_e h⟩⟩
theorem xs_sh {b L : Nat} (hb : b + L ≤ 105) (h : post (C, T, F, K, rc, st, rs, ti, ni, cr, hc, nk, ms, ei, us, dn, sa, fi, lo, hi, wa, ic, se, lc, rm, pn_sh w b L, q, ih, vd, ro, no)) : ∀ d n : Nat, n + d = L → wX_takeHead_61 post (nI (b + L)) C T F K rc (d + 1) (nI (b + n)) st rs ti ni cr hc nk ms ei us dn sa fi lo hi wa ic se lc rm (pn_sh w b n) q ih vd ro no := by
  intro d
  induction d with
  | zero =>
    intro n hn
    have e : n = L := by omega
    subst e
    exact br_t (nI_le (Nat.le_refl _) (by omega)) h
  | succ d IH =>
    intro n hn
    refine br_f (nI_ge (by omega) (by omega)) ?_
    rw [show nI (b + n) + 7 = nI (b + n + 7) from nI_add _ 7, nI_clamp (n := b + n + 7) (by omega), nI_clamp (n := b + n) (by omega)]
    refine ⟨vp_in_nI (by omega) (by decide), vp_in_nI (by omega) (by decide), ?_⟩
    intro a ea x ex
    rw [nI_1] at ex
    rw [pn_shs] at ea
    subst ea ex
    exact IH (n + 1) (by omega)
theorem xs_take {n b k : Nat} (hb : b ≤ 105) (hk : k < 7) (h : wX_takeHead_10 post P (nI b) C T F K rc n (nI (k + 1)) st rs ti ni cr hc nk ms ei us dn sa fi lo hi wa ic se lc rm w q (upd ih k (w (b + k))) vd ro no) : wX_takeHead_10 post P (nI b) C T F K rc (n + 1) (nI k) st rs ti ni cr hc nk ms ei us dn sa fi lo hi wa ic se lc rm w q ih vd ro no := by
  refine br_f (pp_g7 hk) ?_
  rw [pp_bk hb hk, nI_clamp (n := k) (by omega)]
  refine ⟨pp_vbk hb hk, vp_in_nI hk (by decide), ?_⟩
  intro a ea x ex
  rw [nI_1] at ex
  subst ea ex
  exact h
theorem xe_take (HP : pn_P P p) {n s : Nat} (hs : q p = nI (s + 1)) (hs8 : s + 1 ≤ 8) (h : post (C, T, F, K, rc, st, rs, ti, ni, cr, hc, nk, ms, ei, us, dn, sa, fi, lo, hi, wa, ic, se, lc, rm, pn_sh w (p * 56) (s * 7), upd q p (nI s), ih, vd, ro, no)) : wX_takeHead_10 post P (nI (p * 56)) C T F K rc (n + 1) (nI 7) st rs ti ni cr hc nk ms ei us dn sa fi lo hi wa ic se lc rm w q ih vd ro no := by
  have pv := pp_v HP
  have hp := pp_lt HP
  refine br_t pp_77 ⟨pv, pv, ?_⟩
  rw [pp_n HP, hs, nI_pred]
  intro a ea
  rw [ea, pn_at]
  refine ⟨pv, ?_⟩
  intro x ex
  rw [show nI s * 7 = nI (s * 7) from pn_mul s 7, nI_add] at ex
  subst ea ex
  refine ⟨s * 7 + 1, ?_⟩
  have h0 := xs_sh (b := p * 56) (L := s * 7) (by omega) h (s * 7) 0 (by omega)
  rw [pn_sh0] at h0
  exact h0
theorem xa_take (HP : pn_P P p) {s : Nat} (hs : q p = nI (s + 1)) (hs8 : s + 1 ≤ 8) (h : post (C, T, F, K, rc, st, rs, ti, ni, cr, hc, nk, ms, ei, us, dn, sa, fi, lo, hi, wa, ic, se, lc, rm, pn_sh w (p * 56) (s * 7), upd q p (nI s), pn_l7 ih (fun f => w (p * 56 + f)), vd, ro, no)) : wpX_takeHead post (C, T, F, K, rc, st, rs, ti, ni, cr, hc, nk, ms, ei, us, dn, sa, fi, lo, hi, wa, ic, se, lc, rm, w, q, ih, vd, ro, no) P := by
  have hp := pp_lt HP
  have hb : p * 56 ≤ 105 := by omega
  unfold wpX_takeHead
  intro x2 e2
  rw [pp_b0 HP] at e2
  subst e2
  exact ⟨8, xs_take hb (k := 0) (by decide) (xs_take hb (k := 1) (by decide) (xs_take hb (k := 2) (by decide) (xs_take hb (k := 3) (by decide) (xs_take hb (k := 4) (by decide) (xs_take hb (k := 5) (by decide) (xs_take hb (k := 6) (by decide) (xe_take HP hs hs8 h)))))))⟩
theorem xs_sca (HP : pn_P P p) {n k : Nat} {R : Nat → Int32} (hR : ro k = R k) (hk : k < 4) (h : wX_sendConfigureAck_20 post P C T F K rc n (nI (k + 1)) st rs ti ni cr hc nk ms ei us dn sa fi lo hi wa ic se lc (upd rm (p * 4 + k) (R k)) w q ih vd ro no) : wX_sendConfigureAck_20 post P C T F K rc (n + 1) (nI k) st rs ti ni cr hc nk ms ei us dn sa fi lo hi wa ic se lc rm w q ih vd ro no := by
  refine br_f (pp_g4 hk) ?_
  rw [pp_4 HP hk, nI_clamp (n := k) (by omega), hR]
  refine ⟨vp_in_nI hk (by decide), pp_v4 HP hk, ?_⟩
  intro a ea x ex
  rw [nI_1] at ex
  subst ea ex
  exact h
theorem xe_sca (HP : pn_P P p) {n : Nat} (h : post (C, T, F, K, rc, st, rs, ti, ni, cr, hc, upd nk p 0, ms, ei, us, dn, sa, fi, lo, hi, wa, ic, se, lc, rm, w, q, ih, vd, ro, no)) : wX_sendConfigureAck_20 post P C T F K rc (n + 1) (nI 4) st rs ti ni cr hc nk ms ei us dn sa fi lo hi wa ic se lc rm w q ih vd ro no := by
  refine br_t pp_44 ⟨pp_v HP, ?_⟩
  rw [pp_n HP]
  exact nm_e h
theorem xa_sca (HP : pn_P P p) {s : Nat} (hs : q p = nI s) (hs8 : s ≤ 8) {M1 : Int32} (h1 : ih 1 = M1) {R : Nat → Int32} (hR : ∀ k, k < 4 → ro k = R k) (h : post (C, T, F, K, rc, st, rs, ti, ni, cr, hc, upd nk p 0, ms, ei, us, dn, sa, fi, lo, hi, wa, ic, se, lc, pn_4 rm (p * 4) R, pn_aw w q p 2 M1 0 (R 0) (R 1) (R 2) (R 3), pn_aq q p, ih, vd, ro, no)) : wpX_sendConfigureAck post (C, T, F, K, rc, st, rs, ti, ni, cr, hc, nk, ms, ei, us, dn, sa, fi, lo, hi, wa, ic, se, lc, rm, w, q, ih, vd, ro, no) P := by
  unfold wpX_sendConfigureAck
  refine xa_app_ro HP hs hs8 ?_
  rw [h1, hR 0 (by decide), hR 1 (by decide), hR 2 (by decide), hR 3 (by decide)]
  exact ⟨5, xs_sca HP (k := 0) (hR 0 (by decide)) (by decide) (xs_sca HP (k := 1) (hR 1 (by decide)) (by decide) (xs_sca HP (k := 2) (hR 2 (by decide)) (by decide) (xs_sca HP (k := 3) (hR 3 (by decide)) (by decide) (xe_sca HP h))))⟩
theorem xa_scn (HP : pn_P P p) {s : Nat} (hs : q p = nI s) (hs8 : s ≤ 8) {M1 : Int32} (h1 : ih 1 = M1) {R : Nat → Int32} (hR : ∀ k, k < 4 → ro k = R k) (h : post (C, T, F, K, rc, st, rs, ti, ni, cr, hc, if rc = 3 then upd nk p (nk p + 1) else nk, ms, ei, us, dn, sa, fi, lo, hi, wa, ic, se, lc, rm, pn_aw w q p rc M1 0 (R 0) (R 1) (R 2) (R 3), pn_aq q p, ih, vd, ro, no)) : wpX_sendRefusal post (C, T, F, K, rc, st, rs, ti, ni, cr, hc, nk, ms, ei, us, dn, sa, fi, lo, hi, wa, ic, se, lc, rm, w, q, ih, vd, ro, no) P := by
  have pv := pp_v HP
  unfold wpX_sendRefusal
  rw [pp_n HP]
  refine xa_app_ro HP hs hs8 ?_
  rw [h1, hR 0 (by decide), hR 1 (by decide), hR 2 (by decide), hR 3 (by decide)]
  by_cases h3 : rc = 3
  · rw [if_pos h3] at h
    exact br_t h3 ⟨pv, pv, nm_e h⟩
  · rw [if_neg h3] at h
    exact br_f h3 h
theorem xs_adopt (HP : pn_P P p) {n k : Nat} {M wa0 ic0 : Nat → Int32} (hM : ∀ f, f < 7 → ih f = M f) (hk : k < 4) (hw : wa (p * 4 + k) = wa0 (p * 4 + k)) (hc1 : ic (p * 4 + k) = ic0 (p * 4 + k)) (h : wX_adopt_2 post P C T F K rc n (nI (k + 1)) st rs ti ni cr hc nk ms ei us dn sa fi lo hi (upd wa (p * 4 + k) (pn_aW (M 0) M lo hi wa0 p k)) (upd ic (p * 4 + k) (pn_aI (M 0) M ic0 p k)) se lc rm w q ih vd ro no) : wX_adopt_2 post P C T F K rc (n + 1) (nI k) st rs ti ni cr hc nk ms ei us dn sa fi lo hi wa ic se lc rm w q ih vd ro no := by
  refine br_f (pp_g4 hk) ?_
  intro x3 e3
  have e4 : x3.toNatClampNeg = p * 4 + k := by rw [e3, pp_4 HP hk]
  have v4 : vp_in x3 8 := by rw [e3]; exact pp_v4 HP hk
  rw [e4, pp_3 hk, hM (3 + k) (by omega), hM 0 (by decide)]
  refine ⟨pp_v3 hk, ?_⟩
  intro x4 e5
  subst e5
  by_cases hn : M (3 + k) = -1
  · rw [show pn_aW (M 0) M lo hi wa0 p k = wa0 (p * 4 + k) from if_pos hn, show pn_aI (M 0) M ic0 p k = ic0 (p * 4 + k) from if_pos hn, pn_self wa _ _ hw, pn_self ic _ _ hc1] at h
    refine br_t hn ?_
    intro x ex
    rw [nI_1] at ex
    subst ex
    exact h
  · refine br_f hn ?_
    by_cases h3 : M 0 = 3
    · rw [show pn_aW (M 0) M lo hi wa0 p k = pn_cl (M (3 + k)) (lo (p * 4 + k)) (hi (p * 4 + k)) from (if_neg hn).trans (if_pos h3), show pn_aI (M 0) M ic0 p k = ic0 (p * 4 + k) from (if_neg hn).trans (if_pos h3), pn_self ic _ _ hc1] at h
      refine br_t h3 ⟨v4, v4, xa_clamp ⟨v4, ?_⟩⟩
      intro a ea x ex
      rw [nI_1] at ex
      subst ea ex
      exact h
    · rw [show pn_aW (M 0) M lo hi wa0 p k = wa0 (p * 4 + k) from (if_neg hn).trans (if_neg h3), show pn_aI (M 0) M ic0 p k = 0 from (if_neg hn).trans (if_neg h3), pn_self wa _ _ hw] at h
      refine br_f h3 ⟨v4, ?_⟩
      intro a ea x ex
      rw [pn_b0] at ea
      rw [nI_1] at ex
      subst ea ex
      exact h
theorem xe_adopt {n : Nat} (h : post (C, T, F, K, rc, st, rs, ti, ni, cr, hc, nk, ms, ei, us, dn, sa, fi, lo, hi, wa, ic, se, lc, rm, w, q, ih, vd, ro, no)) : wX_adopt_2 post P C T F K rc (n + 1) (nI 4) st rs ti ni cr hc nk ms ei us dn sa fi lo hi wa ic se lc rm w q ih vd ro no := br_t pp_44 h
theorem xa_adopt (HP : pn_P P p) {M : Nat → Int32} (hM : ∀ f, f < 7 → ih f = M f) (h : post (C, T, F, K, rc, st, rs, ti, ni, cr, hc, nk, ms, ei, us, dn, sa, fi, lo, hi, pn_4 wa (p * 4) (pn_aW (M 0) M lo hi wa p), pn_4 ic (p * 4) (pn_aI (M 0) M ic p), se, lc, rm, w, q, ih, vd, ro, no)) : wpX_adopt post (C, T, F, K, rc, st, rs, ti, ni, cr, hc, nk, ms, ei, us, dn, sa, fi, lo, hi, wa, ic, se, lc, rm, w, q, ih, vd, ro, no) P := by
  unfold wpX_adopt
  refine ⟨5, xs_adopt HP (k := 0) (wa0 := wa) (ic0 := ic) hM (by decide) ?_ ?_ (xs_adopt HP (k := 1) (wa0 := wa) (ic0 := ic) hM (by decide) ?_ ?_ (xs_adopt HP (k := 2) (wa0 := wa) (ic0 := ic) hM (by decide) ?_ ?_ (xs_adopt HP (k := 3) (wa0 := wa) (ic0 := ic) hM (by decide) ?_ ?_ (xe_adopt h))))⟩
  all_goals first | rfl | (repeat rw [pn_ne _ _ (by omega)])
theorem xs_vA (HP : pn_P P p) {n k : Nat} {M : Nat → Int32} {y : Int32} (hM : ∀ f, f < 7 → ih f = M f) (hk : k < 4) (hy : y = 0 ∨ y = 1) (h : wX_isValidAck_23 post1 P C T F K rc st rs ti ni cr hc nk ms ei us dn sa fi lo hi wa ic se lc rm w q ih vd ro no n (pn_fA M se p k y) (nI (k + 1))) : wX_isValidAck_23 post1 P C T F K rc st rs ti ni cr hc nk ms ei us dn sa fi lo hi wa ic se lc rm w q ih vd ro no (n + 1) y (nI k) := by
  refine br_f (pp_g4 hk) ?_
  rw [pp_3 hk, pp_4 HP hk, hM (3 + k) (by omega)]
  rcases hy with rfl | rfl
  · rw [show pn_fA M se p k 0 = 0 from ite_self 0] at h
    refine br_t rfl ?_
    intro x ex
    rw [nI_1] at ex
    subst ex
    exact h
  · refine br_f (by decide) ⟨pp_v3 hk, pp_v4 HP hk, ?_⟩
    by_cases c : M (3 + k) = se (p * 4 + k)
    · rw [show pn_fA M se p k 1 = 1 from if_pos c] at h
      exact br_t c (nm_r (nI_1 k) h)
    · rw [show pn_fA M se p k 1 = 0 from if_neg c] at h
      exact br_f c (nm_r (nI_1 k) h)
theorem xe_vA {n : Nat} {y : Int32} (hy : y = 0 ∨ y = 1) (h : post1 y) : wX_isValidAck_23 post1 P C T F K rc st rs ti ni cr hc nk ms ei us dn sa fi lo hi wa ic se lc rm w q ih vd ro no (n + 1) y (nI 4) := by
  rcases hy with rfl | rfl
  · exact br_t pp_44 ⟨rfl, h⟩
  · exact br_t pp_44 ⟨rfl, h⟩
theorem xa_vA (HP : pn_P P p) {M : Nat → Int32} (hM : ∀ f, f < 7 → ih f = M f) (h : post1 (pn_gA M se p (if M 1 = cr p then 1 else 0))) : wpX_isValidAck post1 (C, T, F, K, rc, st, rs, ti, ni, cr, hc, nk, ms, ei, us, dn, sa, fi, lo, hi, wa, ic, se, lc, rm, w, q, ih, vd, ro, no) P := by
  unfold wpX_isValidAck
  refine ⟨pp_v HP, ?_⟩
  rw [pp_n HP, hM 1 (by decide)]
  by_cases c : M 1 = cr p
  · rw [if_pos c] at h
    have y0 := pn_fA_01 (M := M) (se := se) (p := p) (k := 0) (y := 1) (Or.inr rfl)
    have y1 := pn_fA_01 (M := M) (se := se) (p := p) (k := 1) y0
    have y2 := pn_fA_01 (M := M) (se := se) (p := p) (k := 2) y1
    have y3 := pn_fA_01 (M := M) (se := se) (p := p) (k := 3) y2
    exact br_t c ⟨5, xs_vA HP (k := 0) hM (by decide) (Or.inr rfl) (xs_vA HP (k := 1) hM (by decide) y0 (xs_vA HP (k := 2) hM (by decide) y1 (xs_vA HP (k := 3) hM (by decide) y2 (xe_vA y3 h))))⟩
  · rw [if_neg c] at h
    have y0 := pn_fA_01 (M := M) (se := se) (p := p) (k := 0) (y := 0) (Or.inl rfl)
    have y1 := pn_fA_01 (M := M) (se := se) (p := p) (k := 1) y0
    have y2 := pn_fA_01 (M := M) (se := se) (p := p) (k := 2) y1
    have y3 := pn_fA_01 (M := M) (se := se) (p := p) (k := 3) y2
    exact br_f c ⟨5, xs_vA HP (k := 0) hM (by decide) (Or.inl rfl) (xs_vA HP (k := 1) hM (by decide) y0 (xs_vA HP (k := 2) hM (by decide) y1 (xs_vA HP (k := 3) hM (by decide) y2 (xe_vA y3 h))))⟩
theorem xs_vN (HP : pn_P P p) {n k : Nat} {M : Nat → Int32} {y : Int32} (hM : ∀ f, f < 7 → ih f = M f) (hk : k < 4) (hy : y = 0 ∨ y = 1) (h : wX_isValidNak_23 post1 P C T F K rc st rs ti ni cr hc nk ms ei us dn sa fi lo hi wa ic se lc rm w q ih vd ro no n (pn_fN M se p k y) (nI (k + 1))) : wX_isValidNak_23 post1 P C T F K rc st rs ti ni cr hc nk ms ei us dn sa fi lo hi wa ic se lc rm w q ih vd ro no (n + 1) y (nI k) := by
  refine br_f (pp_g4 hk) ?_
  rw [pp_3 hk, pp_4 HP hk, hM (3 + k) (by omega)]
  rcases hy with rfl | rfl
  · rw [show pn_fN M se p k 0 = 0 from by unfold pn_fN; split <;> (try split) <;> rfl] at h
    exact br_t rfl (nm_r (nI_1 k) h)
  · refine br_f (by decide) ⟨pp_v3 hk, ?_⟩
    by_cases c : M (3 + k) = -1
    · rw [show pn_fN M se p k 1 = 1 from if_pos c] at h
      exact br_t c (nm_r (nI_1 k) h)
    · refine br_f c ⟨pp_v4 HP hk, ?_⟩
      by_cases c2 : se (p * 4 + k) = -1
      · rw [show pn_fN M se p k 1 = 0 from (if_neg c).trans (if_pos c2)] at h
        exact br_t c2 (nm_r (nI_1 k) h)
      · rw [show pn_fN M se p k 1 = 1 from (if_neg c).trans (if_neg c2)] at h
        exact br_f c2 (nm_r (nI_1 k) h)
theorem xe_vN {n : Nat} {y : Int32} (hy : y = 0 ∨ y = 1) (h : post1 y) : wX_isValidNak_23 post1 P C T F K rc st rs ti ni cr hc nk ms ei us dn sa fi lo hi wa ic se lc rm w q ih vd ro no (n + 1) y (nI 4) := by
  rcases hy with rfl | rfl
  · exact br_t pp_44 ⟨rfl, h⟩
  · exact br_t pp_44 ⟨rfl, h⟩
theorem xa_vN (HP : pn_P P p) {M : Nat → Int32} (hM : ∀ f, f < 7 → ih f = M f) (h : post1 (pn_gN M se p (if M 1 = cr p then 1 else 0))) : wpX_isValidNak post1 (C, T, F, K, rc, st, rs, ti, ni, cr, hc, nk, ms, ei, us, dn, sa, fi, lo, hi, wa, ic, se, lc, rm, w, q, ih, vd, ro, no) P := by
  unfold wpX_isValidNak
  refine ⟨pp_v HP, ?_⟩
  rw [pp_n HP, hM 1 (by decide)]
  by_cases c : M 1 = cr p
  · rw [if_pos c] at h
    have y0 := pn_fN_01 (M := M) (se := se) (p := p) (k := 0) (y := 1) (Or.inr rfl)
    have y1 := pn_fN_01 (M := M) (se := se) (p := p) (k := 1) y0
    have y2 := pn_fN_01 (M := M) (se := se) (p := p) (k := 2) y1
    have y3 := pn_fN_01 (M := M) (se := se) (p := p) (k := 3) y2
    exact br_t c ⟨5, xs_vN HP (k := 0) hM (by decide) (Or.inr rfl) (xs_vN HP (k := 1) hM (by decide) y0 (xs_vN HP (k := 2) hM (by decide) y1 (xs_vN HP (k := 3) hM (by decide) y2 (xe_vN y3 h))))⟩
  · rw [if_neg c] at h
    have y0 := pn_fN_01 (M := M) (se := se) (p := p) (k := 0) (y := 0) (Or.inl rfl)
    have y1 := pn_fN_01 (M := M) (se := se) (p := p) (k := 1) y0
    have y2 := pn_fN_01 (M := M) (se := se) (p := p) (k := 2) y1
    have y3 := pn_fN_01 (M := M) (se := se) (p := p) (k := 3) y2
    exact br_f c ⟨5, xs_vN HP (k := 0) hM (by decide) (Or.inl rfl) (xs_vN HP (k := 1) hM (by decide) y0 (xs_vN HP (k := 2) hM (by decide) y1 (xs_vN HP (k := 3) hM (by decide) y2 (xe_vN y3 h))))⟩
theorem xs_vR (HP : pn_P P p) {n k : Nat} {M : Nat → Int32} {y : Int32} (hM : ∀ f, f < 7 → ih f = M f) (hk : k < 4) (hy : y = 0 ∨ y = 1) (h : wX_isValidReject_23 post1 P C T F K rc st rs ti ni cr hc nk ms ei us dn sa fi lo hi wa ic se lc rm w q ih vd ro no n (pn_fR M se p k y) (nI (k + 1))) : wX_isValidReject_23 post1 P C T F K rc st rs ti ni cr hc nk ms ei us dn sa fi lo hi wa ic se lc rm w q ih vd ro no (n + 1) y (nI k) := by
  refine br_f (pp_g4 hk) ?_
  rw [pp_3 hk, pp_4 HP hk, hM (3 + k) (by omega)]
  refine ⟨pp_v3 hk, ?_⟩
  intro x4 e4
  subst e4
  rcases hy with rfl | rfl
  · rw [show pn_fR M se p k 0 = 0 from by unfold pn_fR; split <;> (try split) <;> rfl] at h
    exact br_t rfl (nm_r (nI_1 k) h)
  · refine br_f (by decide) ?_
    by_cases c : M (3 + k) = -1
    · rw [show pn_fR M se p k 1 = 1 from if_pos c] at h
      exact br_t c (nm_r (nI_1 k) h)
    · refine br_f c ⟨pp_v4 HP hk, ?_⟩
      by_cases c2 : M (3 + k) = se (p * 4 + k)
      · rw [show pn_fR M se p k 1 = 1 from (if_neg c).trans (if_pos c2)] at h
        exact br_t c2 (nm_r (nI_1 k) h)
      · rw [show pn_fR M se p k 1 = 0 from (if_neg c).trans (if_neg c2)] at h
        exact br_f c2 (nm_r (nI_1 k) h)
theorem xe_vR {n : Nat} {y : Int32} (hy : y = 0 ∨ y = 1) (h : post1 y) : wX_isValidReject_23 post1 P C T F K rc st rs ti ni cr hc nk ms ei us dn sa fi lo hi wa ic se lc rm w q ih vd ro no (n + 1) y (nI 4) := by
  rcases hy with rfl | rfl
  · exact br_t pp_44 ⟨rfl, h⟩
  · exact br_t pp_44 ⟨rfl, h⟩
theorem xa_vR (HP : pn_P P p) {M : Nat → Int32} (hM : ∀ f, f < 7 → ih f = M f) (h : post1 (pn_gR M se p (if M 1 = cr p then 1 else 0))) : wpX_isValidReject post1 (C, T, F, K, rc, st, rs, ti, ni, cr, hc, nk, ms, ei, us, dn, sa, fi, lo, hi, wa, ic, se, lc, rm, w, q, ih, vd, ro, no) P := by
  unfold wpX_isValidReject
  refine ⟨pp_v HP, ?_⟩
  rw [pp_n HP, hM 1 (by decide)]
  by_cases c : M 1 = cr p
  · rw [if_pos c] at h
    have y0 := pn_fR_01 (M := M) (se := se) (p := p) (k := 0) (y := 1) (Or.inr rfl)
    have y1 := pn_fR_01 (M := M) (se := se) (p := p) (k := 1) y0
    have y2 := pn_fR_01 (M := M) (se := se) (p := p) (k := 2) y1
    have y3 := pn_fR_01 (M := M) (se := se) (p := p) (k := 3) y2
    exact br_t c ⟨5, xs_vR HP (k := 0) hM (by decide) (Or.inr rfl) (xs_vR HP (k := 1) hM (by decide) y0 (xs_vR HP (k := 2) hM (by decide) y1 (xs_vR HP (k := 3) hM (by decide) y2 (xe_vR y3 h))))⟩
  · rw [if_neg c] at h
    have y0 := pn_fR_01 (M := M) (se := se) (p := p) (k := 0) (y := 0) (Or.inl rfl)
    have y1 := pn_fR_01 (M := M) (se := se) (p := p) (k := 1) y0
    have y2 := pn_fR_01 (M := M) (se := se) (p := p) (k := 2) y1
    have y3 := pn_fR_01 (M := M) (se := se) (p := p) (k := 3) y2
    exact br_f c ⟨5, xs_vR HP (k := 0) hM (by decide) (Or.inl rfl) (xs_vR HP (k := 1) hM (by decide) y0 (xs_vR HP (k := 2) hM (by decide) y1 (xs_vR HP (k := 3) hM (by decide) y2 (xe_vR y3 h))))⟩
end PX
end
section
section PY
variable {C T F K : Int32} {st rs ti ni cr hc nk ms ei us dn sa fi lo hi wa ic se lc rm w q mg ou rp ca sg : Nat → Int32} {P : Int32} {p : Nat} {post : SY → Prop}
variable {post1 : Int32 → Prop} {nf op : Nat → Int32}
theorem ya_lim {v l g : Int32} (h : post1 (pn_cl v l g)) : wpY_lim post1 (C, T, F, K, nf, op, w, q, mg, ou, rp, ca, sg) v l g := by
  unfold pn_cl at h
  refine br_c (fun h1 => ?_) (fun h1 => ?_)
  · rw [if_pos h1] at h
    refine br_c (fun h2 => ?_) (fun h2 => ?_)
    · rw [if_pos h2] at h; exact h
    · rw [if_neg h2] at h; exact h
  · rw [if_neg h1] at h; exact h
theorem ya_st (HP : pn_P P p) (h : post1 (st p)) : wpY_st post1 (C, T, F, K, pn_I st rs ti ni cr hc nk ms ei us dn sa fi, pn_O lo hi wa ic se lc rm, w, q, mg, ou, rp, ca, sg) P := by
  unfold wpY_st
  refine ⟨pp_vi0 HP, ?_⟩
  rw [pp_i0 HP, pn_I_a0]
  exact h
theorem ye_fin (HP : pn_P P p) (h : post (C, T, F, K, pn_I st rs (upd ti p 0) ni cr hc nk ms ei us dn sa fi, pn_O lo hi wa ic se lc rm, w, q, mg, ou, rp, ca, sg)) : wY_fin_21 post P C T F K (pn_I st rs ti ni cr hc nk ms ei us dn sa fi) (pn_O lo hi wa ic se lc rm) w q mg ou rp ca sg := by
  unfold wY_fin_21
  rw [pp_i2 HP, pn_I_u2]
  exact ⟨pp_vi2 HP, nm_e h⟩
theorem ya_fin1 (HP : pn_P P p) {N : Int32} (e4 : ¬ N < 4) (e8 : N ≤ 8) (h : post (C, T, F, K, pn_I (upd st p N) rs ti ni cr hc nk ms ei us dn sa fi, pn_O lo hi wa ic se lc rm, w, q, mg, ou, rp, ca, sg)) : wpY_fin post (C, T, F, K, pn_I st rs ti ni cr hc nk ms ei us dn sa fi, pn_O lo hi wa ic se lc rm, w, q, mg, ou, rp, ca, sg) P N := by
  unfold wpY_fin
  refine ⟨pp_vi0 HP, ?_⟩
  rw [pp_i0 HP, pn_I_u0]
  exact nm_e (br_f e4 (br_t e8 h))
theorem ya_fin0 (HP : pn_P P p) {N : Int32} (e : N < 4 ∨ (¬ N < 4 ∧ ¬ N ≤ 8)) (h : post (C, T, F, K, pn_I (upd st p N) rs (upd ti p 0) ni cr hc nk ms ei us dn sa fi, pn_O lo hi wa ic se lc rm, w, q, mg, ou, rp, ca, sg)) : wpY_fin post (C, T, F, K, pn_I st rs ti ni cr hc nk ms ei us dn sa fi, pn_O lo hi wa ic se lc rm, w, q, mg, ou, rp, ca, sg) P N := by
  unfold wpY_fin
  refine ⟨pp_vi0 HP, ?_⟩
  rw [pp_i0 HP, pn_I_u0]
  refine nm_e ?_
  rcases e with e4 | ⟨e4, e8⟩
  · exact br_t e4 (ye_fin HP h)
  · exact br_f e4 (br_f e8 (ye_fin HP h))
theorem ya_fins1 (HP : pn_P P p) {N : Int32} (es : st p = N) (e4 : ¬ N < 4) (e8 : N ≤ 8) (h : post (C, T, F, K, pn_I st rs ti ni cr hc nk ms ei us dn sa fi, pn_O lo hi wa ic se lc rm, w, q, mg, ou, rp, ca, sg)) : wpY_fin post (C, T, F, K, pn_I st rs ti ni cr hc nk ms ei us dn sa fi, pn_O lo hi wa ic se lc rm, w, q, mg, ou, rp, ca, sg) P N :=
  ya_fin1 HP e4 e8 (by rw [pn_self st p N es]; exact h)
theorem ya_fins0 (HP : pn_P P p) {N : Int32} (es : st p = N) (e : N < 4 ∨ (¬ N < 4 ∧ ¬ N ≤ 8)) (h : post (C, T, F, K, pn_I st rs (upd ti p 0) ni cr hc nk ms ei us dn sa fi, pn_O lo hi wa ic se lc rm, w, q, mg, ou, rp, ca, sg)) : wpY_fin post (C, T, F, K, pn_I st rs ti ni cr hc nk ms ei us dn sa fi, pn_O lo hi wa ic se lc rm, w, q, mg, ou, rp, ca, sg) P N :=
  ya_fin0 HP e (by rw [pn_self st p N es]; exact h)
theorem ys_out {n k : Nat} (hk : k < 4) (h : wY_setOut_24 post C T F K n (nI (k + 1)) nf op w q mg (upd ou (3 + k) (-1)) rp ca sg) : wY_setOut_24 post C T F K (n + 1) (nI k) nf op w q mg ou rp ca sg := by
  refine br_f (pp_g4 hk) ?_
  rw [pp_3 hk]
  exact ⟨pp_v3 hk, nm_e (nm_r (nI_1 k) h)⟩
theorem ya_out {c i d : Int32} (h : post (C, T, F, K, nf, op, w, q, mg, pn_l7 ou (pn_m c i d (-1) (-1) (-1) (-1)), rp, ca, sg)) : wpY_setOut post (C, T, F, K, nf, op, w, q, mg, ou, rp, ca, sg) c i d :=
  nm_e (nm_e (nm_e ⟨5, ys_out (k := 0) (by decide) (ys_out (k := 1) (by decide) (ys_out (k := 2) (by decide) (ys_out (k := 3) (by decide) (br_t pp_44 h))))⟩))
theorem ys_push {n b k : Nat} {x : Int32} (hb : b ≤ 105) (hx : ou k = x) (hk : k < 7) (h : wY_push_28 post P (nI b) C T F K n (nI (k + 1)) nf op (upd w (b + k) x) q mg ou rp ca sg) : wY_push_28 post P (nI b) C T F K (n + 1) (nI k) nf op w q mg ou rp ca sg := by
  refine br_f (pp_g7 hk) ?_
  rw [pp_bk hb hk, nI_clamp (n := k) (by omega), hx]
  exact ⟨vp_in_nI hk (by decide), pp_vbk hb hk, nm_e (nm_r (nI_1 k) h)⟩
theorem ye_push (HP : pn_P P p) {n b : Nat} (h : post (C, T, F, K, nf, op, w, upd q p (q p + 1), mg, ou, rp, ca, sg)) : wY_push_28 post P (nI b) C T F K (n + 1) (nI 7) nf op w q mg ou rp ca sg := by
  refine br_t pp_77 ⟨pp_v HP, pp_v HP, ?_⟩
  rw [pp_n HP]
  exact nm_e h
theorem ya_push (HP : pn_P P p) {s : Nat} (hs : q p = nI s) (hs8 : s ≤ 8) {c i d x0 x1 x2 x3 : Int32} (e0 : ou 0 = c) (e1 : ou 1 = i) (e2 : ou 2 = d) (e3 : ou 3 = x0) (e4 : ou 4 = x1) (e5 : ou 5 = x2) (e6 : ou 6 = x3) (h : post (C, T, F, K, nf, op, pn_aw w q p c i d x0 x1 x2 x3, pn_aq q p, mg, ou, rp, ca, sg)) : wpY_push post (C, T, F, K, nf, op, w, q, mg, ou, rp, ca, sg) P := by
  have pv := pp_v HP
  unfold wpY_push
  refine ⟨pv, ?_⟩
  rw [pp_n HP, hs]
  by_cases h8 : s < 8
  · have hb : p * 56 + s * 7 ≤ 105 := by have := pp_lt HP; omega
    rw [pn_aw_lt hs h8, pn_aq_lt hs h8] at h
    refine br_f (nI_ge (b := 8) h8 (by decide)) ⟨pv, ?_⟩
    intro y7 e7
    rw [pp_y HP] at e7
    subst e7
    exact ⟨8, ys_push hb e0 (by decide) (ys_push hb e1 (by decide) (ys_push hb e2 (by decide) (ys_push hb e3 (by decide) (ys_push hb e4 (by decide) (ys_push hb e5 (by decide) (ys_push hb e6 (by decide) (ye_push HP h)))))))⟩
  · rw [pn_aw_ge hs h8 hs8, pn_aq_ge hs h8 hs8] at h
    exact br_t (nI_le (a := 8) (by omega) (by omega)) h
theorem ye_spend (HP : pn_P P p) (h : post (C, T, F, K, pn_I st rs (upd ti p K) ni cr hc nk ms ei us dn sa fi, pn_O lo hi wa ic se lc rm, w, q, mg, ou, rp, ca, sg)) : wY_spend_29 post P C T F K (pn_I st rs ti ni cr hc nk ms ei us dn sa fi) (pn_O lo hi wa ic se lc rm) w q mg ou rp ca sg := by
  unfold wY_spend_29
  rw [pp_i2 HP, pn_I_u2]
  exact ⟨pp_vi2 HP, nm_e h⟩
theorem ya_spend (HP : pn_P P p) (h : post (C, T, F, K, pn_I st (pn_sp rs p) (upd ti p K) ni cr hc nk ms ei us dn sa fi, pn_O lo hi wa ic se lc rm, w, q, mg, ou, rp, ca, sg)) : wpY_spend post (C, T, F, K, pn_I st rs ti ni cr hc nk ms ei us dn sa fi, pn_O lo hi wa ic se lc rm, w, q, mg, ou, rp, ca, sg) P := by
  have v1 := pp_vi1 HP
  unfold wpY_spend
  refine ⟨v1, ?_⟩
  rw [pp_i1 HP, pn_I_a1, pn_I_u1]
  by_cases hr : rs p ≤ 0
  · rw [show pn_sp rs p = rs from if_pos hr] at h
    exact br_t hr (ye_spend HP h)
  · rw [show pn_sp rs p = upd rs p (rs p - 1) from if_neg hr] at h
    exact br_f hr ⟨v1, v1, nm_e (ye_spend HP h)⟩
theorem ya_ircC (HP : pn_P P p) (h : post (C, T, F, K, pn_I st (upd rs p C) ti ni cr hc nk ms ei us dn sa fi, pn_O lo hi wa ic se lc rm, w, q, mg, ou, rp, ca, sg)) : wpY_ircC post (C, T, F, K, pn_I st rs ti ni cr hc nk ms ei us dn sa fi, pn_O lo hi wa ic se lc rm, w, q, mg, ou, rp, ca, sg) P := by
  unfold wpY_ircC
  refine ⟨pp_vi1 HP, ?_⟩
  rw [pp_i1 HP, pn_I_u1]
  exact nm_e h
theorem ya_ircT (HP : pn_P P p) (h : post (C, T, F, K, pn_I st (upd rs p T) ti ni cr hc nk ms ei us dn sa fi, pn_O lo hi wa ic se lc rm, w, q, mg, ou, rp, ca, sg)) : wpY_ircT post (C, T, F, K, pn_I st rs ti ni cr hc nk ms ei us dn sa fi, pn_O lo hi wa ic se lc rm, w, q, mg, ou, rp, ca, sg) P := by
  unfold wpY_ircT
  refine ⟨pp_vi1 HP, ?_⟩
  rw [pp_i1 HP, pn_I_u1]
  exact nm_e h
theorem ya_zrc (HP : pn_P P p) (h : post (C, T, F, K, pn_I st (upd rs p 0) (upd ti p K) ni cr hc nk ms ei us dn sa fi, pn_O lo hi wa ic se lc rm, w, q, mg, ou, rp, ca, sg)) : wpY_zrc post (C, T, F, K, pn_I st rs ti ni cr hc nk ms ei us dn sa fi, pn_O lo hi wa ic se lc rm, w, q, mg, ou, rp, ca, sg) P := by
  unfold wpY_zrc
  refine ⟨pp_vi1 HP, ?_⟩
  rw [pp_i1 HP, pp_i2 HP, pn_I_u1]
  refine nm_e ⟨pp_vi2 HP, ?_⟩
  rw [pn_I_u2]
  exact nm_e h
theorem ya_tlu (HP : pn_P P p) (h : post (C, T, F, K, pn_I st rs ti ni cr hc nk (upd ms p 0) ei (upd us p (us p + 1)) dn sa fi, pn_O lo hi wa ic se lc rm, w, q, mg, ou, rp, ca, sg)) : wpY_tlu post (C, T, F, K, pn_I st rs ti ni cr hc nk ms ei us dn sa fi, pn_O lo hi wa ic se lc rm, w, q, mg, ou, rp, ca, sg) P := by
  unfold wpY_tlu
  refine ⟨pp_vi9 HP, pp_vi9 HP, ?_⟩
  rw [pp_i9 HP, pp_i7 HP, pn_I_a9, pn_I_u9]
  refine nm_e ⟨pp_vi7 HP, ?_⟩
  rw [pn_I_u7]
  exact nm_e h
theorem ya_tld (HP : pn_P P p) (h : post (C, T, F, K, pn_I st rs ti ni cr hc nk ms ei us (upd dn p (dn p + 1)) sa fi, pn_O lo hi wa ic se lc rm, w, q, mg, ou, rp, ca, sg)) : wpY_tld post (C, T, F, K, pn_I st rs ti ni cr hc nk ms ei us dn sa fi, pn_O lo hi wa ic se lc rm, w, q, mg, ou, rp, ca, sg) P := by
  unfold wpY_tld
  refine ⟨pp_vi10 HP, pp_vi10 HP, ?_⟩
  rw [pp_i10 HP, pn_I_a10, pn_I_u10]
  exact nm_e h
theorem ya_tls (HP : pn_P P p) (h : post (C, T, F, K, pn_I st rs ti ni cr hc nk ms ei us dn (upd sa p (sa p + 1)) fi, pn_O lo hi wa ic se lc rm, w, q, mg, ou, rp, ca, sg)) : wpY_tls post (C, T, F, K, pn_I st rs ti ni cr hc nk ms ei us dn sa fi, pn_O lo hi wa ic se lc rm, w, q, mg, ou, rp, ca, sg) P := by
  unfold wpY_tls
  refine ⟨pp_vi11 HP, pp_vi11 HP, ?_⟩
  rw [pp_i11 HP, pn_I_a11, pn_I_u11]
  exact nm_e h
theorem ya_tlf (HP : pn_P P p) (h : post (C, T, F, K, pn_I st rs ti ni cr hc nk ms ei us dn sa (upd fi p (fi p + 1)), pn_O lo hi wa ic se lc rm, w, q, mg, ou, rp, ca, sg)) : wpY_tlf post (C, T, F, K, pn_I st rs ti ni cr hc nk ms ei us dn sa fi, pn_O lo hi wa ic se lc rm, w, q, mg, ou, rp, ca, sg) P := by
  unfold wpY_tlf
  refine ⟨pp_vi12 HP, pp_vi12 HP, ?_⟩
  rw [pp_i12 HP, pn_I_a12, pn_I_u12]
  exact nm_e h
theorem ys_start (HP : pn_P P p) {n k : Nat} (hk : k < 4) (h : wY_start_2 post P C T F K n (nI (k + 1)) (pn_I st rs ti ni cr hc nk ms ei us dn sa fi) (pn_O lo hi (upd wa (p * 4 + k) (hi (p * 4 + k))) (upd ic (p * 4 + k) (pn_in lo hi p k)) se lc rm) w q mg ou rp ca sg) : wY_start_2 post P C T F K (n + 1) (nI k) (pn_I st rs ti ni cr hc nk ms ei us dn sa fi) (pn_O lo hi wa ic se lc rm) w q mg ou rp ca sg := by
  refine br_f (pp_g4 hk) ?_
  intro x3 e3
  have o0 : (x3).toNatClampNeg = (p * 4 + k) * 7 + 0 := by rw [e3]; exact pp_o0 HP hk
  have v0 : vp_in (x3) 56 := by rw [e3]; exact pp_vo0 HP hk
  have o1 : (x3 + 1).toNatClampNeg = (p * 4 + k) * 7 + 1 := by rw [e3]; exact pp_o1 HP hk
  have v1 : vp_in (x3 + 1) 56 := by rw [e3]; exact pp_vo1 HP hk
  have o2 : (x3 + 2).toNatClampNeg = (p * 4 + k) * 7 + 2 := by rw [e3]; exact pp_o2 HP hk
  have v2 : vp_in (x3 + 2) 56 := by rw [e3]; exact pp_vo2 HP hk
  have o3 : (x3 + 3).toNatClampNeg = (p * 4 + k) * 7 + 3 := by rw [e3]; exact pp_o3 HP hk
  have v3 : vp_in (x3 + 3) 56 := by rw [e3]; exact pp_vo3 HP hk
  rw [o0, o1, o2, o3, pn_O_a1, pn_O_u2]
  refine ⟨v1, v2, nm_e ⟨v0, v1, ?_⟩⟩
  rw [pn_O_a1, pn_O_a0, pn_O_u3, pn_O_u3]
  by_cases hc1 : hi (p * 4 + k) < lo (p * 4 + k)
  · rw [show pn_in lo hi p k = 0 from if_pos hc1] at h
    exact br_t hc1 ⟨v3, nm_e (nm_r (nI_1 k) h)⟩
  · rw [show pn_in lo hi p k = 1 from if_neg hc1] at h
    exact br_f hc1 ⟨v3, nm_e (nm_r (nI_1 k) h)⟩
theorem ye_start (HP : pn_P P p) {n : Nat} (h : post (C, T, F, K, pn_I st rs ti ni cr hc (upd nk p 0) ms ei us dn sa fi, pn_O lo hi wa ic se lc rm, w, q, mg, ou, rp, ca, sg)) : wY_start_2 post P C T F K (n + 1) (nI 4) (pn_I st rs ti ni cr hc nk ms ei us dn sa fi) (pn_O lo hi wa ic se lc rm) w q mg ou rp ca sg := by
  refine br_t pp_44 ⟨pp_vi6 HP, ?_⟩
  rw [pp_i6 HP, pn_I_u6]
  exact nm_e h
theorem ya_start (HP : pn_P P p) (h : post (C, T, F, K, pn_I st rs ti ni cr hc (upd nk p 0) ms ei us dn sa fi, pn_O lo hi (pn_4 wa (p * 4) (pn_hi hi p)) (pn_4 ic (p * 4) (pn_in lo hi p)) se lc rm, w, q, mg, ou, rp, ca, sg)) : wpY_start post (C, T, F, K, pn_I st rs ti ni cr hc nk ms ei us dn sa fi, pn_O lo hi wa ic se lc rm, w, q, mg, ou, rp, ca, sg) P :=
  ⟨5, ys_start HP (k := 0) (by decide) (ys_start HP (k := 1) (by decide) (ys_start HP (k := 2) (by decide) (ys_start HP (k := 3) (by decide) (ye_start HP h))))⟩
theorem ys_scr (HP : pn_P P p) {n k : Nat} (hk : k < 4) (hic : ic (p * 4 + k) = 0 ∨ ic (p * 4 + k) = 1) (h : wY_scr_56 post P C T F K n (nI (k + 1)) (pn_I st rs ti ni cr hc nk ms ei us dn sa fi) (pn_O lo hi wa ic (upd se (p * 4 + k) (pn_g ic wa p k)) lc rm) w q mg (upd ou (3 + k) (pn_g ic wa p k)) rp ca sg) : wY_scr_56 post P C T F K (n + 1) (nI k) (pn_I st rs ti ni cr hc nk ms ei us dn sa fi) (pn_O lo hi wa ic se lc rm) w q mg ou rp ca sg := by
  refine br_f (pp_g4 hk) ?_
  intro x3 e3
  have o2 : (x3 + 2).toNatClampNeg = (p * 4 + k) * 7 + 2 := by rw [e3]; exact pp_o2 HP hk
  have v2 : vp_in (x3 + 2) 56 := by rw [e3]; exact pp_vo2 HP hk
  have o3 : (x3 + 3).toNatClampNeg = (p * 4 + k) * 7 + 3 := by rw [e3]; exact pp_o3 HP hk
  have v3 : vp_in (x3 + 3) 56 := by rw [e3]; exact pp_vo3 HP hk
  have o4 : (x3 + 4).toNatClampNeg = (p * 4 + k) * 7 + 4 := by rw [e3]; exact pp_o4 HP hk
  have v4 : vp_in (x3 + 4) 56 := by rw [e3]; exact pp_vo4 HP hk
  unfold wY_scr_101
  rw [o2, o3, o4, pn_O_a2, pn_O_a3, pn_O_u4, pn_O_u4, pp_3 hk]
  refine ⟨v3, ?_⟩
  rcases hic with hc1 | hc1
  · rw [show pn_g ic wa p k = -1 from if_pos hc1] at h
    refine br_f (by rw [hc1]; decide) ⟨v4, nm_e ⟨v4, pp_v3 hk, ?_⟩⟩
    rw [pn_O_a4, pn_at]
    exact nm_e (nm_r (nI_1 k) h)
  · rw [show pn_g ic wa p k = wa (p * 4 + k) from if_neg (by rw [hc1]; decide)] at h
    refine br_t hc1 ⟨v2, v4, nm_e ⟨v4, pp_v3 hk, ?_⟩⟩
    rw [pn_O_a4, pn_at]
    exact nm_e (nm_r (nI_1 k) h)
theorem ye_scr (HP : pn_P P p) {n s : Nat} (hs : q p = nI s) (hs8 : s ≤ 8) {i x0 x1 x2 x3 : Int32} (e0 : ou 0 = 1) (e1 : ou 1 = i) (e2 : ou 2 = 0) (e3 : ou 3 = x0) (e4 : ou 4 = x1) (e5 : ou 5 = x2) (e6 : ou 6 = x3) (h : post (C, T, F, K, pn_I st (pn_sp rs p) (upd ti p K) ni cr hc nk ms ei us dn sa fi, pn_O lo hi wa ic se lc rm, pn_aw w q p 1 i 0 x0 x1 x2 x3, pn_aq q p, mg, ou, rp, ca, sg)) : wY_scr_56 post P C T F K (n + 1) (nI 4) (pn_I st rs ti ni cr hc nk ms ei us dn sa fi) (pn_O lo hi wa ic se lc rm) w q mg ou rp ca sg :=
  br_t pp_44 (ya_push HP hs hs8 e0 e1 e2 e3 e4 e5 e6 (ya_spend HP h))
theorem ya_scr (HP : pn_P P p) (VO : pn_VO lo hi ic) {s : Nat} (hs : q p = nI s) (hs8 : s ≤ 8) (h : ∀ ou', post (C, T, F, K, pn_I st (pn_sp rs p) (upd ti p K) (upd ni p (ni p + 1)) (upd cr p (ni p + 1)) hc nk ms ei us dn sa fi, pn_O lo hi wa ic (pn_4 se (p * 4) (pn_g ic wa p)) lc rm, pn_aw w q p 1 (ni p + 1) 0 (pn_g ic wa p 0) (pn_g ic wa p 1) (pn_g ic wa p 2) (pn_g ic wa p 3), pn_aq q p, mg, ou', rp, ca, sg)) : wpY_scr post (C, T, F, K, pn_I st rs ti ni cr hc nk ms ei us dn sa fi, pn_O lo hi wa ic se lc rm, w, q, mg, ou, rp, ca, sg) P := by
  have hp := pp_lt HP
  have hic : ∀ k, k < 4 → ic (p * 4 + k) = 0 ∨ ic (p * 4 + k) = 1 := fun k hk => (VO (p * 4 + k) (by omega)).2
  unfold wpY_scr
  refine ⟨pp_vi3 HP, pp_vi3 HP, ?_⟩
  rw [pp_i3 HP, pp_i4 HP, pn_I_a3, pn_I_u3]
  refine nm_e ⟨pp_vi3 HP, pp_vi4 HP, ?_⟩
  rw [pn_I_a3, pn_at, pn_I_u4]
  refine nm_e ⟨pp_vi4 HP, ?_⟩
  rw [pn_I_a4, pn_at]
  refine ya_out ⟨5, ?_⟩
  refine ys_scr HP (k := 0) (by decide) (hic 0 (by decide)) (ys_scr HP (k := 1) (by decide) (hic 1 (by decide)) (ys_scr HP (k := 2) (by decide) (hic 2 (by decide)) (ys_scr HP (k := 3) (by decide) (hic 3 (by decide)) (ye_scr HP hs hs8 (i := ni p + 1) (x0 := pn_g ic wa p 0) (x1 := pn_g ic wa p 1) (x2 := pn_g ic wa p 2) (x3 := pn_g ic wa p 3) rfl rfl rfl rfl rfl rfl rfl (h _)))))
theorem ya_send0 (HP : pn_P P p) {s : Nat} (hs : q p = nI s) (hs8 : s ≤ 8) {c i d : Int32} (h : ∀ ou', post (C, T, F, K, nf, op, pn_aw w q p c i d (-1) (-1) (-1) (-1), pn_aq q p, mg, ou', rp, ca, sg)) : wpY_setOut (fun u => wpY_push post u P) (C, T, F, K, nf, op, w, q, mg, ou, rp, ca, sg) c i d :=
  ya_out (ya_push HP hs hs8 rfl rfl rfl rfl rfl rfl rfl (h _))
theorem ya_str (HP : pn_P P p) {s : Nat} (hs : q p = nI s) (hs8 : s ≤ 8) (h : ∀ ou', post (C, T, F, K, pn_I st (pn_sp rs p) (upd ti p K) (upd ni p (ni p + 1)) cr hc nk ms ei us dn sa fi, pn_O lo hi wa ic se lc rm, pn_aw w q p 5 (ni p + 1) 0 (-1) (-1) (-1) (-1), pn_aq q p, mg, ou', rp, ca, sg)) : wpY_str post (C, T, F, K, pn_I st rs ti ni cr hc nk ms ei us dn sa fi, pn_O lo hi wa ic se lc rm, w, q, mg, ou, rp, ca, sg) P := by
  unfold wpY_str
  refine ⟨pp_vi3 HP, pp_vi3 HP, ?_⟩
  rw [pp_i3 HP, pn_I_a3, pn_I_u3]
  refine nm_e ⟨pp_vi3 HP, ?_⟩
  rw [pn_I_a3, pn_at]
  exact ya_out (ya_push HP hs hs8 rfl rfl rfl rfl rfl rfl rfl (ya_spend HP (h _)))
theorem ya_sta (HP : pn_P P p) {s : Nat} (hs : q p = nI s) (hs8 : s ≤ 8) {M1 : Int32} (h1 : mg 1 = M1) (h : ∀ ou', post (C, T, F, K, pn_I st rs ti ni cr hc nk ms ei us dn sa fi, pn_O lo hi wa ic se lc rm, pn_aw w q p 6 M1 0 (-1) (-1) (-1) (-1), pn_aq q p, mg, ou', rp, ca, sg)) : wpY_sta post (C, T, F, K, pn_I st rs ti ni cr hc nk ms ei us dn sa fi, pn_O lo hi wa ic se lc rm, w, q, mg, ou, rp, ca, sg) P := by
  unfold wpY_sta
  refine ya_out ?_
  rw [h1]
  exact (ya_push HP hs hs8 rfl rfl rfl rfl rfl rfl rfl (h _))
theorem ya_scj (HP : pn_P P p) {s : Nat} (hs : q p = nI s) (hs8 : s ≤ 8) {M0 : Int32} (h1 : mg 0 = M0) (h : ∀ ou', post (C, T, F, K, pn_I st rs ti (upd ni p (ni p + 1)) cr hc nk ms ei us dn sa fi, pn_O lo hi wa ic se lc rm, pn_aw w q p 7 (ni p + 1) M0 (-1) (-1) (-1) (-1), pn_aq q p, mg, ou', rp, ca, sg)) : wpY_scj post (C, T, F, K, pn_I st rs ti ni cr hc nk ms ei us dn sa fi, pn_O lo hi wa ic se lc rm, w, q, mg, ou, rp, ca, sg) P := by
  unfold wpY_scj
  refine ⟨pp_vi3 HP, pp_vi3 HP, ?_⟩
  rw [pp_i3 HP, pn_I_a3, pn_I_u3, h1]
  refine nm_e ⟨pp_vi3 HP, ?_⟩
  rw [pn_I_a3, pn_at]
  exact ya_out (ya_push HP hs hs8 rfl rfl rfl rfl rfl rfl rfl (h _))
theorem ys_sca (HP : pn_P P p) {n k : Nat} {R : Nat → Int32} (hR : mg (3 + k) = R k) (hk : k < 4) (h : wY_sca_14 post P C T F K n (nI (k + 1)) (pn_I st rs ti ni cr hc nk ms ei us dn sa fi) (pn_O lo hi wa ic se lc (upd rm (p * 4 + k) (R k))) w q mg (upd ou (3 + k) (R k)) rp ca sg) : wY_sca_14 post P C T F K (n + 1) (nI k) (pn_I st rs ti ni cr hc nk ms ei us dn sa fi) (pn_O lo hi wa ic se lc rm) w q mg ou rp ca sg := by
  refine br_f (pp_g4 hk) ?_
  rw [pp_3 hk, pp_o6 HP hk, pn_O_u6, hR]
  exact ⟨pp_v3 hk, pp_v3 hk, nm_e ⟨pp_v3 hk, pp_vo6 HP hk, nm_e (nm_r (nI_1 k) h)⟩⟩
theorem ye_sca (HP : pn_P P p) {n s : Nat} (hs : q p = nI s) (hs8 : s ≤ 8) {i x0 x1 x2 x3 : Int32} (e0 : ou 0 = 2) (e1 : ou 1 = i) (e2 : ou 2 = 0) (e3 : ou 3 = x0) (e4 : ou 4 = x1) (e5 : ou 5 = x2) (e6 : ou 6 = x3) (h : post (C, T, F, K, pn_I st rs ti ni cr hc (upd nk p 0) ms ei us dn sa fi, pn_O lo hi wa ic se lc rm, pn_aw w q p 2 i 0 x0 x1 x2 x3, pn_aq q p, mg, ou, rp, ca, sg)) : wY_sca_14 post P C T F K (n + 1) (nI 4) (pn_I st rs ti ni cr hc nk ms ei us dn sa fi) (pn_O lo hi wa ic se lc rm) w q mg ou rp ca sg := by
  refine br_t pp_44 (ya_push HP hs hs8 e0 e1 e2 e3 e4 e5 e6 ?_)
  refine ⟨pp_vi6 HP, ?_⟩
  rw [pp_i6 HP, pn_I_u6]
  exact nm_e h
theorem ya_sca (HP : pn_P P p) {s : Nat} (hs : q p = nI s) (hs8 : s ≤ 8) {M1 : Int32} (h1 : mg 1 = M1) {R : Nat → Int32} (hR : ∀ k, k < 4 → mg (3 + k) = R k) (h : ∀ ou', post (C, T, F, K, pn_I st rs ti ni cr hc (upd nk p 0) ms ei us dn sa fi, pn_O lo hi wa ic se lc (pn_4 rm (p * 4) R), pn_aw w q p 2 M1 0 (R 0) (R 1) (R 2) (R 3), pn_aq q p, mg, ou', rp, ca, sg)) : wpY_sca post (C, T, F, K, pn_I st rs ti ni cr hc nk ms ei us dn sa fi, pn_O lo hi wa ic se lc rm, w, q, mg, ou, rp, ca, sg) P := by
  unfold wpY_sca
  refine ya_out ?_
  rw [h1]
  refine ⟨5, ?_⟩
  exact ys_sca HP (k := 0) (hR 0 (by decide)) (by decide) (ys_sca HP (k := 1) (hR 1 (by decide)) (by decide) (ys_sca HP (k := 2) (hR 2 (by decide)) (by decide) (ys_sca HP (k := 3) (hR 3 (by decide)) (by decide) (ye_sca HP hs hs8 (i := M1) (x0 := R 0) (x1 := R 1) (x2 := R 2) (x3 := R 3) rfl rfl rfl rfl rfl rfl rfl (h _)))))
theorem ys_scn {n k : Nat} {x : Int32} (hx : rp k = x) (hk : k < 7) (h : wY_scn_2 post P C T F K n (nI (k + 1)) (pn_I st rs ti ni cr hc nk ms ei us dn sa fi) (pn_O lo hi wa ic se lc rm) w q mg (upd ou k x) rp ca sg) : wY_scn_2 post P C T F K (n + 1) (nI k) (pn_I st rs ti ni cr hc nk ms ei us dn sa fi) (pn_O lo hi wa ic se lc rm) w q mg ou rp ca sg := by
  refine br_f (pp_g7 hk) ?_
  rw [nI_clamp (n := k) (by omega), hx]
  exact ⟨vp_in_nI hk (by decide), vp_in_nI hk (by decide), nm_e (nm_r (nI_1 k) h)⟩
theorem ye_scn (HP : pn_P P p) {n s : Nat} (hs : q p = nI s) (hs8 : s ≤ 8) {c i x0 x1 x2 x3 : Int32} (hc1 : rp 0 = c) (e0 : ou 0 = c) (e1 : ou 1 = i) (e2 : ou 2 = 0) (e3 : ou 3 = x0) (e4 : ou 4 = x1) (e5 : ou 5 = x2) (e6 : ou 6 = x3) (h : post (C, T, F, K, pn_I st rs ti ni cr hc (if c = 3 then upd nk p (nk p + 1) else nk) ms ei us dn sa fi, pn_O lo hi wa ic se lc rm, pn_aw w q p c i 0 x0 x1 x2 x3, pn_aq q p, mg, ou, rp, ca, sg)) : wY_scn_2 post P C T F K (n + 1) (nI 7) (pn_I st rs ti ni cr hc nk ms ei us dn sa fi) (pn_O lo hi wa ic se lc rm) w q mg ou rp ca sg := by
  refine br_t pp_77 (ya_push HP hs hs8 e0 e1 e2 e3 e4 e5 e6 ?_)
  by_cases h3 : c = 3
  · rw [if_pos h3] at h
    refine br_t (hc1.trans h3) ⟨pp_vi6 HP, pp_vi6 HP, ?_⟩
    rw [pp_i6 HP, pn_I_a6, pn_I_u6]
    exact nm_e h
  · rw [if_neg h3] at h
    exact br_f (by rw [hc1]; exact h3) h
theorem ya_scn (HP : pn_P P p) {s : Nat} (hs : q p = nI s) (hs8 : s ≤ 8) {c M1 : Int32} (hc1 : rp 0 = c) (h1 : rp 1 = M1) (h2 : rp 2 = 0) {R : Nat → Int32} (hR : ∀ k, k < 4 → rp (3 + k) = R k) (h : ∀ ou', post (C, T, F, K, pn_I st rs ti ni cr hc (if c = 3 then upd nk p (nk p + 1) else nk) ms ei us dn sa fi, pn_O lo hi wa ic se lc rm, pn_aw w q p c M1 0 (R 0) (R 1) (R 2) (R 3), pn_aq q p, mg, ou', rp, ca, sg)) : wpY_scn post (C, T, F, K, pn_I st rs ti ni cr hc nk ms ei us dn sa fi, pn_O lo hi wa ic se lc rm, w, q, mg, ou, rp, ca, sg) P :=
  ⟨8, ys_scn (k := 0) hc1 (by decide) (ys_scn (k := 1) h1 (by decide) (ys_scn (k := 2) h2 (by decide) (ys_scn (k := 3) (hR 0 (by decide)) (by decide) (ys_scn (k := 4) (hR 1 (by decide)) (by decide) (ys_scn (k := 5) (hR 2 (by decide)) (by decide) (ys_scn (k := 6) (hR 3 (by decide)) (by decide) (ye_scn HP hs hs8 (x0 := R 0) (x1 := R 1) (x2 := R 2) (x3 := R 3) hc1 rfl rfl rfl rfl rfl rfl rfl (h _))))))))⟩
theorem ys_pin {J : Int32 → (Nat → Int32) → (Nat → Int32) → (Nat → Int32) → (Nat → Int32) → (Nat → Int32) → (Nat → Int32) → (Nat → Int32) → (Nat → Int32) → (Nat → Int32) → Prop} {n b i k : Nat} (hb : b ≤ 56) (hi7 : i < 7) (hk : k < 7) (h : wY_popHead_56 post J P (nI b) (nI i) C T F K n (nI (k + 1)) nf op (pn_sh w b (i * 7 + (k + 1))) q mg ou rp ca sg) : wY_popHead_56 post J P (nI b) (nI i) C T F K (n + 1) (nI k) nf op (pn_sh w b (i * 7 + k)) q mg ou rp ca sg := by
  refine br_f (pp_g7 hk) ?_
  have e1 : nI b + nI i * 7 = nI (b + i * 7) := by
    rw [show nI i * 7 = nI (i * 7) from pn_mul i 7, nI_add]
  rw [e1, show nI (b + i * 7) + 7 = nI (b + i * 7 + 7) from nI_add _ 7, nI_add, nI_add, nI_clamp (n := b + i * 7 + 7 + k) (by omega), nI_clamp (n := b + i * 7 + k) (by omega)]
  refine ⟨vp_in_nI (by omega) (by decide), vp_in_nI (by omega) (by decide), ?_⟩
  have es := pn_shs w b (i * 7 + k)
  rw [show b + (i * 7 + k) = b + i * 7 + k from by omega] at es
  rw [show b + i * 7 + k + 7 = b + i * 7 + 7 + k from by omega] at es
  rw [es]
  exact nm_e (nm_r (nI_1 k) h)
theorem ye_pop (HP : pn_P P p) {s : Nat} (hs : q p = nI (s + 1)) (h : post (C, T, F, K, nf, op, w, upd q p (nI s), mg, ou, rp, ca, sg)) : wY_popHead_106 post P C T F K nf op w q mg ou rp ca sg := by
  unfold wY_popHead_106
  rw [pp_n HP, hs, nI_pred]
  exact ⟨pp_v HP, pp_v HP, nm_e h⟩
theorem ys_pout (HP : pn_P P p) {b s : Nat} (hb : b ≤ 56) (hs : q p = nI (s + 1)) (hs8 : s + 1 ≤ 8) (h : post (C, T, F, K, nf, op, pn_sh w b (s * 7), upd q p (nI s), mg, ou, rp, ca, sg)) : ∀ d i : Nat, i + d = s → wY_popHead_35 post P (nI b) C T F K (d + 1) (nI i) nf op (pn_sh w b (i * 7)) q mg ou rp ca sg := by
  intro d
  induction d with
  | zero =>
    intro i hd
    have e : i = s := by omega
    subst e
    refine ⟨pp_v HP, ?_⟩
    rw [pp_n HP, hs, nI_1]
    exact br_t (nI_le (Nat.le_refl _) (by omega)) (ye_pop HP hs h)
  | succ d IH =>
    intro i hd
    refine ⟨pp_v HP, ?_⟩
    rw [pp_n HP, hs, nI_1]
    refine br_f (nI_ge (by omega) (by omega)) (br_f (pp_g7 (by omega)) ⟨8, ?_⟩)
    have i7 : i < 7 := by omega
    refine ys_pin (k := 0) hb i7 (by decide) (ys_pin (k := 1) hb i7 (by decide) (ys_pin (k := 2) hb i7 (by decide) (ys_pin (k := 3) hb i7 (by decide) (ys_pin (k := 4) hb i7 (by decide) (ys_pin (k := 5) hb i7 (by decide) (ys_pin (k := 6) hb i7 (by decide) ?_))))))
    refine br_t pp_77 (nm_r (nI_1 i) ?_)
    have h1 := IH (i + 1) (by omega)
    rw [show (i + 1) * 7 = i * 7 + (6 + 1) from by omega] at h1
    exact h1
theorem ys_pop {n b k : Nat} (hb : b ≤ 105) (hk : k < 7) (h : wY_popHead_7 post P (nI b) C T F K n (nI (k + 1)) nf op w q mg (upd ou k (w (b + k))) rp ca sg) : wY_popHead_7 post P (nI b) C T F K (n + 1) (nI k) nf op w q mg ou rp ca sg := by
  refine br_f (pp_g7 hk) ?_
  rw [pp_bk hb hk, nI_clamp (n := k) (by omega)]
  exact ⟨pp_vbk hb hk, vp_in_nI hk (by decide), nm_e (nm_r (nI_1 k) h)⟩
theorem ya_pop (HP : pn_P P p) {s : Nat} (hs : q p = nI (s + 1)) (hs8 : s + 1 ≤ 8) (h : post (C, T, F, K, nf, op, pn_sh w (p * 56) (s * 7), upd q p (nI s), mg, pn_l7 ou (fun f => w (p * 56 + f)), rp, ca, sg)) : wpY_popHead post (C, T, F, K, nf, op, w, q, mg, ou, rp, ca, sg) P := by
  have hp := pp_lt HP
  have hb : p * 56 ≤ 105 := by omega
  unfold wpY_popHead
  intro x2 e2
  rw [pp_y0 HP] at e2
  subst e2
  refine ⟨8, ys_pop hb (k := 0) (by decide) (ys_pop hb (k := 1) (by decide) (ys_pop hb (k := 2) (by decide) (ys_pop hb (k := 3) (by decide) (ys_pop hb (k := 4) (by decide) (ys_pop hb (k := 5) (by decide) (ys_pop hb (k := 6) (by decide) (br_t pp_77 ⟨s + 1, ?_⟩)))))))⟩
  have h0 := ys_pout HP (b := p * 56) (by omega) hs hs8 h s 0 (by omega)
  rw [Nat.zero_mul, pn_sh0] at h0
  exact h0
theorem ys_adopt (HP : pn_P P p) {n k : Nat} {M wa0 ic0 : Nat → Int32} (hM : ∀ f, f < 7 → mg f = M f) (hc4 : M 0 = 3 ∨ M 0 = 4) (hk : k < 4) (hw : wa (p * 4 + k) = wa0 (p * 4 + k)) (hc1 : ic (p * 4 + k) = ic0 (p * 4 + k)) (h : wY_adopt_2 post P C T F K n (nI (k + 1)) (pn_I st rs ti ni cr hc nk ms ei us dn sa fi) (pn_O lo hi (upd wa (p * 4 + k) (pn_aW (M 0) M lo hi wa0 p k)) (upd ic (p * 4 + k) (pn_aI (M 0) M ic0 p k)) se lc rm) w q mg ou rp ca sg) : wY_adopt_2 post P C T F K (n + 1) (nI k) (pn_I st rs ti ni cr hc nk ms ei us dn sa fi) (pn_O lo hi wa ic se lc rm) w q mg ou rp ca sg := by
  refine br_f (pp_g4 hk) ?_
  rw [pp_3 hk, hM (3 + k) (by omega), hM 0 (by decide)]
  refine ⟨pp_v3 hk, nm_e ?_⟩
  intro x3 e3
  have o0 : (x3).toNatClampNeg = (p * 4 + k) * 7 + 0 := by rw [e3]; exact pp_o0 HP hk
  have v0 : vp_in (x3) 56 := by rw [e3]; exact pp_vo0 HP hk
  have o1 : (x3 + 1).toNatClampNeg = (p * 4 + k) * 7 + 1 := by rw [e3]; exact pp_o1 HP hk
  have v1 : vp_in (x3 + 1) 56 := by rw [e3]; exact pp_vo1 HP hk
  have o2 : (x3 + 2).toNatClampNeg = (p * 4 + k) * 7 + 2 := by rw [e3]; exact pp_o2 HP hk
  have v2 : vp_in (x3 + 2) 56 := by rw [e3]; exact pp_vo2 HP hk
  have o3 : (x3 + 3).toNatClampNeg = (p * 4 + k) * 7 + 3 := by rw [e3]; exact pp_o3 HP hk
  have v3 : vp_in (x3 + 3) 56 := by rw [e3]; exact pp_vo3 HP hk
  unfold wY_adopt_96 wY_adopt_97
  rw [o0, o1, o2, o3, hM 0 (by decide), pn_O_a0, pn_O_a1]
  by_cases hn : M (3 + k) = -1
  · rw [show pn_aW (M 0) M lo hi wa0 p k = wa0 (p * 4 + k) from if_pos hn, show pn_aI (M 0) M ic0 p k = ic0 (p * 4 + k) from if_pos hn, pn_self wa _ _ hw, pn_self ic _ _ hc1] at h
    exact br_t hn (br_t hn (nm_r (nI_1 k) h))
  · refine br_f hn ?_
    rcases hc4 with h3 | h3
    · have n4 : ¬ M 0 = 4 := by rw [h3]; decide
      rw [show pn_aW (M 0) M lo hi wa0 p k = pn_cl (M (3 + k)) (lo (p * 4 + k)) (hi (p * 4 + k)) from (if_neg hn).trans (if_pos h3), show pn_aI (M 0) M ic0 p k = ic0 (p * 4 + k) from (if_neg hn).trans (if_pos h3), pn_self ic _ _ hc1] at h
      refine br_t h3 ⟨v0, ?_⟩
      rw [pn_O_u2, pn_O_u2, pn_O_u2]
      by_cases c1 : lo (p * 4 + k) ≤ M (3 + k)
      · refine br_t c1 ⟨v1, ?_⟩
        by_cases c2 : M (3 + k) ≤ hi (p * 4 + k)
        · rw [show pn_cl (M (3 + k)) (lo (p * 4 + k)) (hi (p * 4 + k)) = M (3 + k) from (if_pos c1).trans (if_pos c2)] at h
          exact br_t c2 ⟨v2, nm_e (br_f hn (br_f n4 (nm_r (nI_1 k) h)))⟩
        · rw [show pn_cl (M (3 + k)) (lo (p * 4 + k)) (hi (p * 4 + k)) = hi (p * 4 + k) from (if_pos c1).trans (if_neg c2)] at h
          exact br_f c2 ⟨v1, v2, nm_e (br_f hn (br_f n4 (nm_r (nI_1 k) h)))⟩
      · rw [show pn_cl (M (3 + k)) (lo (p * 4 + k)) (hi (p * 4 + k)) = lo (p * 4 + k) from if_neg c1] at h
        exact br_f c1 ⟨v0, v2, nm_e (br_f hn (br_f n4 (nm_r (nI_1 k) h)))⟩
    · have n3 : ¬ M 0 = 3 := by rw [h3]; decide
      rw [show pn_aW (M 0) M lo hi wa0 p k = wa0 (p * 4 + k) from (if_neg hn).trans (if_neg n3), show pn_aI (M 0) M ic0 p k = 0 from (if_neg hn).trans (if_neg n3), pn_self wa _ _ hw] at h
      refine br_f n3 (br_f hn (br_t h3 ⟨v3, ?_⟩))
      rw [pn_O_u3]
      exact nm_e (nm_r (nI_1 k) h)
theorem ya_adopt (HP : pn_P P p) {M : Nat → Int32} (hM : ∀ f, f < 7 → mg f = M f) (hc4 : M 0 = 3 ∨ M 0 = 4) (h : post (C, T, F, K, pn_I st rs ti ni cr hc nk ms ei us dn sa fi, pn_O lo hi (pn_4 wa (p * 4) (pn_aW (M 0) M lo hi wa p)) (pn_4 ic (p * 4) (pn_aI (M 0) M ic p)) se lc rm, w, q, mg, ou, rp, ca, sg)) : wpY_adopt post (C, T, F, K, pn_I st rs ti ni cr hc nk ms ei us dn sa fi, pn_O lo hi wa ic se lc rm, w, q, mg, ou, rp, ca, sg) P := by
  unfold wpY_adopt
  refine ⟨5, ys_adopt HP (k := 0) (wa0 := wa) (ic0 := ic) hM hc4 (by decide) ?_ ?_ (ys_adopt HP (k := 1) (wa0 := wa) (ic0 := ic) hM hc4 (by decide) ?_ ?_ (ys_adopt HP (k := 2) (wa0 := wa) (ic0 := ic) hM hc4 (by decide) ?_ ?_ (ys_adopt HP (k := 3) (wa0 := wa) (ic0 := ic) hM hc4 (by decide) ?_ ?_ (br_t pp_44 h))))⟩
  all_goals first | rfl | (repeat rw [pn_ne _ _ (by omega)])
end PY
end
section
def pn_OM (l g x : Int32) : Int32 := if x - 1 < l then (if g < x + 1 then x else x + 1) else x - 1
def pn_J (lo hi wa ic : Nat → Int32) (p : Nat) (M : Nat → Int32) : Nat → Int32 := fun k => if M (3 + k) = -1 then -1 else if lo (p * 4 + k) ≤ hi (p * 4 + k) then (if lo (p * 4 + k) ≤ M (3 + k) then (if M (3 + k) ≤ hi (p * 4 + k) then (if k = 2 then (if ic (p * 4 + k) = 0 then -1 else if M (3 + k) = wa (p * 4 + k) then pn_OM (lo (p * 4 + k)) (hi (p * 4 + k)) (wa (p * 4 + k)) else -1) else -1) else hi (p * 4 + k)) else lo (p * 4 + k)) else -2
def pn_o2 (x j : Int32) : Int32 := if j = -2 then 1 else x
def pn_o3 (x j : Int32) : Int32 := if j < 0 then x else 1
def pn_R (J : Nat → Int32) : Int32 := pn_o2 (pn_o2 (pn_o2 (pn_o2 0 (J 0)) (J 1)) (J 2)) (J 3)
def pn_N (J : Nat → Int32) : Int32 := pn_o3 (pn_o3 (pn_o3 (pn_o3 0 (J 0)) (J 1)) (J 2)) (J 3)
def pn_C (J : Nat → Int32) (n f : Int32) : Int32 := if pn_R J = 0 then (if pn_N J = 0 then 2 else if n < f then 3 else 4) else 4
def pn_Qv (c r j m : Int32) : Int32 := if c = 2 then m else if r = 0 then (if j < 0 then -1 else if c = 3 then j else m) else (if j = -2 then (if c = 3 then j else m) else -1)
def pn_Q (J M : Nat → Int32) (c : Int32) : Nat → Int32 := fun k => pn_Qv c (pn_R J) (J k) (M (3 + k))
def pn_ck (j : Int32) : Int32 := if j = -2 then 2 else if j < 0 then 0 else 1
theorem pn_o2_01 {x j : Int32} (h : x = 0 ∨ x = 1) : pn_o2 x j = 0 ∨ pn_o2 x j = 1 := by
  unfold pn_o2
  split
  · exact Or.inr rfl
  · exact h
theorem pn_o3_01 {x j : Int32} (h : x = 0 ∨ x = 1) : pn_o3 x j = 0 ∨ pn_o3 x j = 1 := by
  unfold pn_o3
  split
  · exact h
  · exact Or.inr rfl
theorem pn_inc {l g x : Int32} (hl : 0 ≤ l) (hg : g ≤ 65535) (h1 : l ≤ x) (h2 : x ≤ g) : 0 ≤ x + 1 := by
  have z : (0 : Int32).toInt = 0 := by decide
  have b : (65535 : Int32).toInt = 65535 := by decide
  have o : (1 : Int32).toInt = 1 := by decide
  rw [Int32.le_iff_toInt_le] at hl hg h1 h2
  rw [z] at hl
  rw [b] at hg
  rw [Int32.le_iff_toInt_le, z, Int32.toInt_add, o, Int.bmod_eq_of_le (by omega) (by omega)]
  omega
section CX
variable {C T F K rc : Int32} {st rs ti ni cr hc nk ms ei us dn sa fi lo hi wa ic se lc rm w q ih vd ro no : Nat → Int32} {P : Int32} {p : Nat} {post : SX → Prop}
variable {post1 : Int32 → Prop} {M : Nat → Int32}
theorem xa_om {x : Int32} {i : Nat} (v : vp_in x 8) (e : x.toNatClampNeg = i) (h : post1 (pn_OM (lo i) (hi i) (wa i))) : wpX_otherMagic post1 (C, T, F, K, rc, st, rs, ti, ni, cr, hc, nk, ms, ei, us, dn, sa, fi, lo, hi, wa, ic, se, lc, rm, w, q, ih, vd, ro, no) x := by
  unfold wpX_otherMagic
  rw [e]
  unfold pn_OM at h
  refine ⟨v, v, ?_⟩
  by_cases c1 : wa i - 1 < lo i
  · rw [if_pos c1] at h
    refine br_t c1 ⟨v, v, ?_⟩
    by_cases c2 : hi i < wa i + 1
    · rw [if_pos c2] at h
      exact br_t c2 ⟨v, h⟩
    · rw [if_neg c2] at h
      exact br_f c2 ⟨v, h⟩
  · rw [if_neg c1] at h
    exact br_f c1 ⟨v, h⟩
theorem xa_judge (HP : pn_P P p) {k : Nat} (hk : k < 4) (h : post1 ((pn_J lo hi wa ic p M) k)) : wpX_judge post1 (C, T, F, K, rc, st, rs, ti, ni, cr, hc, nk, ms, ei, us, dn, sa, fi, lo, hi, wa, ic, se, lc, rm, w, q, ih, vd, ro, no) P (nI k) (M (3 + k)) := by
  unfold wpX_judge
  intro x4 e3
  have e4 : x4.toNatClampNeg = p * 4 + k := by rw [e3, pp_4 HP hk]
  have v4 : vp_in x4 8 := by rw [e3]; exact pp_v4 HP hk
  rw [e4]
  unfold pn_J at h
  by_cases c1 : M (3 + k) = -1
  · rw [if_pos c1] at h
    exact br_t c1 h
  rw [if_neg c1] at h
  refine br_f c1 ⟨v4, v4, ?_⟩
  by_cases c2 : lo (p * 4 + k) ≤ hi (p * 4 + k)
  · rw [if_pos c2] at h
    refine br_t c2 ⟨v4, ?_⟩
    by_cases c3 : lo (p * 4 + k) ≤ M (3 + k)
    · rw [if_pos c3] at h
      refine br_t c3 ⟨v4, ?_⟩
      by_cases c4 : M (3 + k) ≤ hi (p * 4 + k)
      · rw [if_pos c4] at h
        refine br_t c4 ?_
        have k2 : (nI k = 2) ↔ k = 2 := nI_eq (a := k) (b := 2) (by omega) (by decide)
        by_cases c5 : k = 2
        · rw [if_pos c5] at h
          refine br_t (k2.mpr c5) ⟨v4, ?_⟩
          by_cases c6 : ic (p * 4 + k) = 0
          · rw [if_pos c6] at h
            exact br_t c6 h
          · rw [if_neg c6] at h
            refine br_f c6 ⟨v4, ?_⟩
            by_cases c7 : M (3 + k) = wa (p * 4 + k)
            · rw [if_pos c7] at h
              exact br_t c7 (xa_om v4 e4 h)
            · rw [if_neg c7] at h
              exact br_f c7 h
        · rw [if_neg c5] at h
          exact br_f (fun z => c5 (k2.mp z)) h
      · rw [if_neg c4] at h
        exact br_f c4 ⟨v4, h⟩
    · rw [if_neg c3] at h
      exact br_f c3 ⟨v4, h⟩
  · rw [if_neg c2] at h
    exact br_f c2 h
theorem xe_49 {k : Nat} {z : Int32} (hk : k < 4) (h : post1 (if z = 0 then -1 else if rc = 3 then vd k else ih (3 + k))) : wX_replyOption_49 post1 (nI k) z C T F K rc st rs ti ni cr hc nk ms ei us dn sa fi lo hi wa ic se lc rm w q ih vd ro no := by
  unfold wX_replyOption_49
  rw [pp_3 hk, nI_clamp (n := k) (by omega)]
  by_cases c1 : z = 0
  · rw [if_pos c1] at h
    exact br_t c1 h
  · rw [if_neg c1] at h
    refine br_f c1 ?_
    by_cases c2 : rc = 3
    · rw [if_pos c2] at h
      exact br_t c2 ⟨vp_in_nI hk (by decide), h⟩
    · rw [if_neg c2] at h
      exact br_f c2 ⟨pp_v3 hk, h⟩
theorem xa_rep {k : Nat} {y j m : Int32} (hk : k < 4) (hv : vd k = j) (hm : ih (3 + k) = m) (h : post1 (pn_Qv rc y j m)) : wpX_replyOption post1 (C, T, F, K, rc, st, rs, ti, ni, cr, hc, nk, ms, ei, us, dn, sa, fi, lo, hi, wa, ic, se, lc, rm, w, q, ih, vd, ro, no) (nI k) y := by
  unfold wpX_replyOption
  show (rc = 2 → _) ∧ (¬ rc = 2 → _)
  rw [pp_3 hk, nI_clamp (n := k) (by omega), hv, hm]
  unfold pn_Qv at h
  by_cases c1 : rc = 2
  · rw [if_pos c1] at h
    exact br_t c1 ⟨pp_v3 hk, h⟩
  rw [if_neg c1] at h
  refine br_f c1 ?_
  by_cases c2 : y = 0
  · rw [if_pos c2] at h
    refine br_t c2 ⟨vp_in_nI hk (by decide), ?_⟩
    by_cases c3 : j < 0
    · rw [if_pos c3] at h
      exact br_t c3 (xe_49 hk (by rw [if_pos rfl]; exact h))
    · rw [if_neg c3] at h
      exact br_f c3 (xe_49 hk (by rw [if_neg (by decide), hv, hm]; exact h))
  · rw [if_neg c2] at h
    refine br_f c2 ⟨vp_in_nI hk (by decide), ?_⟩
    by_cases c3 : j = -2
    · rw [if_pos c3] at h
      exact br_t c3 (xe_49 hk (by rw [if_neg (by decide), hv, hm]; exact h))
    · rw [if_neg c3] at h
      exact br_f c3 (xe_49 hk (by rw [if_pos rfl]; exact h))
theorem xs_136 {n k : Nat} {y j m : Int32} (hk : k < 4) (hv : vd k = j) (hm : ih (3 + k) = m) (h : wX_classify_136 post y C T F K rc n (nI (k + 1)) st rs ti ni cr hc nk ms ei us dn sa fi lo hi wa ic se lc rm w q ih vd (upd ro k (pn_Qv rc y j m)) no) : wX_classify_136 post y C T F K rc (n + 1) (nI k) st rs ti ni cr hc nk ms ei us dn sa fi lo hi wa ic se lc rm w q ih vd ro no := by
  refine br_f (pp_g4 hk) (xa_rep hk hv hm ⟨vp_in_nI hk (by decide), ?_⟩)
  rw [nI_clamp (n := k) (by omega)]
  exact nm_e (nm_r (nI_1 k) h)
theorem xa_136 {y : Int32} {J M : Nat → Int32} (hv : ∀ k, k < 4 → vd k = J k) (hM : ∀ f, f < 7 → ih f = M f) (h : ∀ ro', (∀ k, k < 4 → ro' k = pn_Qv rc y (J k) (M (3 + k))) → post (C, T, F, K, rc, st, rs, ti, ni, cr, hc, nk, ms, ei, us, dn, sa, fi, lo, hi, wa, ic, se, lc, rm, w, q, ih, vd, ro', no)) : ∃ n, wX_classify_136 post y C T F K rc n 0 st rs ti ni cr hc nk ms ei us dn sa fi lo hi wa ic se lc rm w q ih vd ro no := by
  refine ⟨5, xs_136 (k := 0) (by decide) (hv 0 (by decide)) (hM (3 + 0) (by decide)) (xs_136 (k := 1) (by decide) (hv 1 (by decide)) (hM (3 + 1) (by decide)) (xs_136 (k := 2) (by decide) (hv 2 (by decide)) (hM (3 + 2) (by decide)) (xs_136 (k := 3) (by decide) (hv 3 (by decide)) (hM (3 + 3) (by decide)) (br_t pp_44 (h _ ?_)))))⟩
  intro k hk
  rcases pp_k4 hk with rfl | rfl | rfl | rfl <;> rfl
theorem xe_57 {J7 : Int32 → Int32 → Int32 → (Nat → Int32) → (Nat → Int32) → (Nat → Int32) → (Nat → Int32) → (Nat → Int32) → (Nat → Int32) → (Nat → Int32) → (Nat → Int32) → (Nat → Int32) → (Nat → Int32) → (Nat → Int32) → (Nat → Int32) → (Nat → Int32) → (Nat → Int32) → (Nat → Int32) → (Nat → Int32) → (Nat → Int32) → (Nat → Int32) → (Nat → Int32) → (Nat → Int32) → (Nat → Int32) → (Nat → Int32) → (Nat → Int32) → (Nat → Int32) → (Nat → Int32) → (Nat → Int32) → Prop} {k : Nat} {x3 z : Int32} (hk : k < 4) (hx : x3 = 0 ∨ x3 = 1) (h : J7 z (pn_o3 x3 (vd k)) (nI (k + 1)) st rs ti ni cr hc nk ms ei us dn sa fi lo hi wa ic se lc rm w q ih vd ro no) : wX_classify_57 post J7 P x3 (nI k) z C T F K rc st rs ti ni cr hc nk ms ei us dn sa fi lo hi wa ic se lc rm w q ih vd ro no := by
  unfold wX_classify_57
  rw [nI_clamp (n := k) (by omega)]
  rcases hx with rfl | rfl
  · refine br_t rfl ⟨vp_in_nI hk (by decide), ?_⟩
    by_cases c : vd k < 0
    · rw [show pn_o3 0 (vd k) = 0 from if_pos c] at h
      exact br_t c (br_t rfl (nm_r (nI_1 k) h))
    · rw [show pn_o3 0 (vd k) = 1 from if_neg c] at h
      exact br_f c (br_f (by decide) (nm_r (nI_1 k) h))
  · rw [show pn_o3 1 (vd k) = 1 from ite_self 1] at h
    exact br_f (by decide) (nm_r (nI_1 k) h)
theorem xs_c7 (HP : pn_P P p) {n k : Nat} {x2 x3 : Int32} (hM : ∀ f, f < 7 → ih f = M f) (hk : k < 4) (h2 : x2 = 0 ∨ x2 = 1) (h3 : x3 = 0 ∨ x3 = 1) (h : wX_classify_7 post P C T F K rc n (pn_o2 x2 ((pn_J lo hi wa ic p M) k)) (pn_o3 x3 ((pn_J lo hi wa ic p M) k)) (nI (k + 1)) st rs ti ni cr hc nk ms ei us dn sa fi lo hi wa ic se lc rm w q ih (upd vd k ((pn_J lo hi wa ic p M) k)) ro no) : wX_classify_7 post P C T F K rc (n + 1) x2 x3 (nI k) st rs ti ni cr hc nk ms ei us dn sa fi lo hi wa ic se lc rm w q ih vd ro no := by
  refine br_f (pp_g4 hk) ⟨pp_v3 hk, ?_⟩
  rw [pp_3 hk, hM (3 + k) (by omega)]
  refine xa_judge HP hk ⟨vp_in_nI hk (by decide), ?_⟩
  rw [nI_clamp (n := k) (by omega)]
  refine nm_e ?_
  rw [pn_at]
  have hv : upd vd k ((pn_J lo hi wa ic p M) k) k = (pn_J lo hi wa ic p M) k := pn_at _ _ _
  rcases h2 with rfl | rfl
  · refine br_t rfl ⟨vp_in_nI hk (by decide), ?_⟩
    by_cases c : (pn_J lo hi wa ic p M) k = -2
    · rw [show pn_o2 0 ((pn_J lo hi wa ic p M) k) = 1 from if_pos c] at h
      refine br_t c (xe_57 hk h3 ?_)
      rw [hv]
      exact h
    · rw [show pn_o2 0 ((pn_J lo hi wa ic p M) k) = 0 from if_neg c] at h
      refine br_f c (xe_57 hk h3 ?_)
      rw [hv]
      exact h
  · rw [show pn_o2 1 ((pn_J lo hi wa ic p M) k) = 1 from ite_self 1] at h
    refine br_f (by decide) (xe_57 hk h3 ?_)
    rw [hv]
    exact h
theorem xe_c7 (HP : pn_P P p) {n : Nat} {J : Nat → Int32} (hM : ∀ f, f < 7 → ih f = M f) (hv : ∀ k, k < 4 → vd k = J k) (h : ∀ ro', (∀ k, k < 4 → ro' k = pn_Q J M (pn_C J (nk p) F) k) → post (C, T, F, K, pn_C J (nk p) F, st, rs, ti, ni, cr, hc, nk, ms, ei, us, dn, sa, fi, lo, hi, wa, ic, se, lc, rm, w, q, ih, vd, ro', no)) : wX_classify_7 post P C T F K rc (n + 1) (pn_R J) (pn_N J) (nI 4) st rs ti ni cr hc nk ms ei us dn sa fi lo hi wa ic se lc rm w q ih vd ro no := by
  refine br_t pp_44 ?_
  rw [pp_n HP]
  by_cases c1 : pn_R J = 0
  · refine br_t c1 ?_
    by_cases c2 : pn_N J = 0
    · rw [show pn_C J (nk p) F = 2 from (if_pos c1).trans (if_pos c2)] at h
      exact br_t c2 (xa_136 hv hM h)
    · refine br_f c2 ⟨pp_v HP, ?_⟩
      by_cases c3 : nk p < F
      · rw [show pn_C J (nk p) F = 3 from (if_pos c1).trans ((if_neg c2).trans (if_pos c3))] at h
        exact br_t c3 (xa_136 hv hM h)
      · rw [show pn_C J (nk p) F = 4 from (if_pos c1).trans ((if_neg c2).trans (if_neg c3))] at h
        exact br_f c3 (xa_136 hv hM h)
  · rw [show pn_C J (nk p) F = 4 from if_neg c1] at h
    exact br_f c1 (xa_136 hv hM h)
theorem xa_class (HP : pn_P P p) (hM : ∀ f, f < 7 → ih f = M f) (h : ∀ vd' ro', (∀ k, k < 4 → ro' k = pn_Q (pn_J lo hi wa ic p M) M (pn_C (pn_J lo hi wa ic p M) (nk p) F) k) → post (C, T, F, K, pn_C (pn_J lo hi wa ic p M) (nk p) F, st, rs, ti, ni, cr, hc, nk, ms, ei, us, dn, sa, fi, lo, hi, wa, ic, se, lc, rm, w, q, ih, vd', ro', no)) : wpX_classify post (C, T, F, K, rc, st, rs, ti, ni, cr, hc, nk, ms, ei, us, dn, sa, fi, lo, hi, wa, ic, se, lc, rm, w, q, ih, vd, ro, no) P := by
  unfold wpX_classify
  have z : (0 : Int32) = 0 ∨ (0 : Int32) = 1 := Or.inl rfl
  have a0 := pn_o2_01 (j := (pn_J lo hi wa ic p M) 0) z
  have a1 := pn_o2_01 (j := (pn_J lo hi wa ic p M) 1) a0
  have a2 := pn_o2_01 (j := (pn_J lo hi wa ic p M) 2) a1
  have b0 := pn_o3_01 (j := (pn_J lo hi wa ic p M) 0) z
  have b1 := pn_o3_01 (j := (pn_J lo hi wa ic p M) 1) b0
  have b2 := pn_o3_01 (j := (pn_J lo hi wa ic p M) 2) b1
  refine ⟨5, xs_c7 HP (k := 0) hM (by decide) z z (xs_c7 HP (k := 1) hM (by decide) a0 b0 (xs_c7 HP (k := 2) hM (by decide) a1 b1 (xs_c7 HP (k := 3) hM (by decide) a2 b2 (xe_c7 (J := (pn_J lo hi wa ic p M)) HP hM ?_ (fun ro' hr => h _ ro' hr)))))⟩
  intro k hk
  rcases pp_k4 hk with rfl | rfl | rfl | rfl <;> rfl
end CX
section CY
variable {C T F K : Int32} {st rs ti ni cr hc nk ms ei us dn sa fi lo hi wa ic se lc rm w q mg ou rp ca sg : Nat → Int32} {P : Int32} {p : Nat} {post : Int32 → SY → Prop}
variable {M : Nat → Int32}
def pn_CI (J : Nat → Int32) (k : Nat) (ca sg : Nat → Int32) : Prop := ∀ j, j < k → ca j = pn_ck (J j) ∧ (¬ J j < 0 → sg j = J j)
theorem pn_CI_s {J : Nat → Int32} {k : Nat} {ca sg ca' sg' : Nat → Int32} (I : pn_CI J k ca sg) (h1 : ca' k = pn_ck (J k)) (h2 : ∀ j, j ≠ k → ca' j = ca j) (h3 : ¬ J k < 0 → sg' k = J k) (h4 : ∀ j, j ≠ k → sg' j = sg j) : pn_CI J (k + 1) ca' sg' := by
  intro j hj
  by_cases e : j = k
  · subst e; exact ⟨h1, h3⟩
  · have := I j (by omega)
    rw [h2 j e, h4 j e]; exact this
theorem ys_c7 (HP : pn_P P p) (VO : pn_VO lo hi ic) {n k : Nat} {y2 y3 : Int32} (hM : ∀ f, f < 7 → mg f = M f) (hk : k < 4) (I : pn_CI (pn_J lo hi wa ic p M) k ca sg) (h : ∀ ca' sg', pn_CI (pn_J lo hi wa ic p M) (k + 1) ca' sg' → wY_classify_7 post P C T F K n (pn_o2 y2 ((pn_J lo hi wa ic p M) k)) (pn_o3 y3 ((pn_J lo hi wa ic p M) k)) (nI (k + 1)) (pn_I st rs ti ni cr hc nk ms ei us dn sa fi) (pn_O lo hi wa ic se lc rm) w q mg ou rp ca' sg') : wY_classify_7 post P C T F K (n + 1) y2 y3 (nI k) (pn_I st rs ti ni cr hc nk ms ei us dn sa fi) (pn_O lo hi wa ic se lc rm) w q mg ou rp ca sg := by
  have hp := pp_lt HP
  obtain ⟨⟨vl, vh, vm⟩, vi⟩ := VO (p * 4 + k) (by omega)
  have vk : vp_in (nI k) 4 := vp_in_nI hk (by decide)
  refine br_f (pp_g4 hk) ⟨vk, ?_⟩
  rw [nI_clamp (n := k) (by omega), pp_3 hk, hM (3 + k) (by omega)]
  refine nm_e ⟨pp_v3 hk, nm_e ?_⟩
  intro x3 e3
  have o0 : (x3).toNatClampNeg = (p * 4 + k) * 7 + 0 := by rw [e3]; exact pp_o0 HP hk
  have v0 : vp_in (x3) 56 := by rw [e3]; exact pp_vo0 HP hk
  have o1 : (x3 + 1).toNatClampNeg = (p * 4 + k) * 7 + 1 := by rw [e3]; exact pp_o1 HP hk
  have v1 : vp_in (x3 + 1) 56 := by rw [e3]; exact pp_vo1 HP hk
  have o2 : (x3 + 2).toNatClampNeg = (p * 4 + k) * 7 + 2 := by rw [e3]; exact pp_o2 HP hk
  have v2 : vp_in (x3 + 2) 56 := by rw [e3]; exact pp_vo2 HP hk
  have o3 : (x3 + 3).toNatClampNeg = (p * 4 + k) * 7 + 3 := by rw [e3]; exact pp_o3 HP hk
  have v3 : vp_in (x3 + 3) 56 := by rw [e3]; exact pp_vo3 HP hk
  rw [o0, o1, o2, o3, pn_O_a0, pn_O_a1, pn_O_a2, pn_O_a3]
  refine ⟨v0, nm_e ⟨v1, nm_e ⟨v2, nm_e ?_⟩⟩⟩
  have fin : ∀ (j : Int32) (ca' sg' : Nat → Int32), (pn_J lo hi wa ic p M) k = j → ca' k = pn_ck j → (∀ i, i ≠ k → ca' i = ca i) → (¬ j < 0 → sg' k = j) → (∀ i, i ≠ k → sg' i = sg i) → wY_classify_7 post P C T F K n (pn_o2 y2 j) (pn_o3 y3 j) (nI (k + 1)) (pn_I st rs ti ni cr hc nk ms ei us dn sa fi) (pn_O lo hi wa ic se lc rm) w q mg ou rp ca' sg' := by
    intro j ca' sg' ej h1 h2 h3 h4
    have hh := h ca' sg' (pn_CI_s I (by rw [ej]; exact h1) h2 (by rw [ej]; exact h3) h4)
    rw [ej] at hh
    exact hh
  have nk1 : ∀ i, i ≠ k → ∀ x : Int32, upd ca k x i = ca i := fun i e x => pn_ne _ _ e
  have nonneg : ∀ j : Int32, 0 ≤ j → (¬ j < 0) ∧ (¬ j = -2) := by
    intro j hj
    have a : ¬ j < 0 := Int32.not_lt.mpr hj
    refine ⟨a, fun e => ?_⟩
    rw [e] at a
    exact a (by decide)
  have nak : ∀ (j : Int32), 0 ≤ j → (pn_J lo hi wa ic p M) k = j → wY_classify_7 post P C T F K n y2 1 (nI (k + 1)) (pn_I st rs ti ni cr hc nk ms ei us dn sa fi) (pn_O lo hi wa ic se lc rm) w q mg ou rp (upd (upd ca k 0) k 1) (upd sg k j) := by
    intro j hj ej
    obtain ⟨n1, n2⟩ := nonneg j hj
    have hh := fin j (upd (upd ca k 0) k 1) (upd sg k j) ej (by rw [pn_at]; unfold pn_ck; rw [if_neg n2, if_neg n1]) (fun i e => by rw [pn_ne _ _ e, pn_ne _ _ e]) (fun _ => pn_at _ _ _) (fun i e => pn_ne _ _ e)
    rw [show pn_o2 y2 j = y2 from if_neg n2, show pn_o3 y3 j = 1 from if_neg n1] at hh
    exact hh
  have acc : (pn_J lo hi wa ic p M) k = -1 → wY_classify_7 post P C T F K n y2 y3 (nI (k + 1)) (pn_I st rs ti ni cr hc nk ms ei us dn sa fi) (pn_O lo hi wa ic se lc rm) w q mg ou rp (upd ca k 0) sg := by
    intro ej
    have hh := fin (-1) (upd ca k 0) sg ej (by rw [pn_at]; decide) (fun i e => pn_ne _ _ e) (fun z => absurd (by decide) z) (fun _ _ => rfl)
    rw [show pn_o2 y2 (-1) = y2 from if_neg (by decide), show pn_o3 y3 (-1) = y3 from if_pos (by decide)] at hh
    exact hh
  by_cases c1 : M (3 + k) = -1
  · have ej : (pn_J lo hi wa ic p M) k = -1 := if_pos c1
    refine br_t c1 ⟨vk, ?_⟩
    rw [pn_uu]
    exact nm_e (nm_r (nI_1 k) (acc ej))
  refine br_f c1 ?_
  have J1 := (if_neg c1 : (pn_J lo hi wa ic p M) k = _)
  by_cases c2 : lo (p * 4 + k) ≤ hi (p * 4 + k)
  · have J2 := J1.trans (if_pos c2)
    refine br_t c2 ?_
    by_cases c3 : lo (p * 4 + k) ≤ M (3 + k)
    · have J3 := J2.trans (if_pos c3)
      refine br_t c3 ?_
      by_cases c4 : M (3 + k) ≤ hi (p * 4 + k)
      · have J4 := J3.trans (if_pos c4)
        refine br_t c4 ?_
        have k2 : (nI k = 2) ↔ k = 2 := nI_eq (a := k) (b := 2) (by omega) (by decide)
        by_cases c5 : k = 2
        · have J5 := J4.trans (if_pos c5)
          refine br_t (k2.mpr c5) ⟨v3, ?_⟩
          rcases vi with vi | vi
          · have J6 := J5.trans (if_pos vi)
            exact br_f (by rw [vi]; decide) (nm_r (nI_1 k) (acc J6))
          · have J6 := J5.trans (if_neg (by rw [vi]; decide))
            refine br_t vi ?_
            by_cases c7 : M (3 + k) = wa (p * 4 + k)
            · have J7 := J6.trans (if_pos c7)
              refine br_t c7 ⟨vk, nm_e ?_⟩
              by_cases c8 : wa (p * 4 + k) - 1 < lo (p * 4 + k)
              · have J8 := J7.trans (if_pos c8)
                refine br_t c8 ?_
                by_cases c9 : hi (p * 4 + k) < wa (p * 4 + k) + 1
                · have J9 := J8.trans (if_pos c9)
                  exact br_t c9 ⟨vk, nm_e (nm_r (nI_1 k) (nak _ (Int32.le_trans vl (c7 ▸ c3)) J9))⟩
                · have J9 := J8.trans (if_neg c9)
                  exact br_f c9 ⟨vk, nm_e (nm_r (nI_1 k) (nak _ (pn_inc vl vm (c7 ▸ c3) (c7 ▸ c4)) J9))⟩
              · have J8 := J7.trans (if_neg c8)
                exact br_f c8 ⟨vk, nm_e (nm_r (nI_1 k) (nak _ (Int32.le_trans vl (Int32.not_lt.mp c8)) J8))⟩
            · have J7 := J6.trans (if_neg c7)
              exact br_f c7 (nm_r (nI_1 k) (acc J7))
        · have J5 := J4.trans (if_neg c5)
          exact br_f (fun z => c5 (k2.mp z)) (nm_r (nI_1 k) (acc J5))
      · have J4 := J3.trans (if_neg c4)
        exact br_f c4 ⟨vk, nm_e ⟨vk, nm_e (nm_r (nI_1 k) (nak _ vh J4))⟩⟩
    · have J3 := J2.trans (if_neg c3)
      exact br_f c3 ⟨vk, nm_e ⟨vk, nm_e (nm_r (nI_1 k) (nak _ vl J3))⟩⟩
  · have J2 := J1.trans (if_neg c2)
    refine br_f c2 ⟨vk, nm_e (nm_r (nI_1 k) ?_)⟩
    have hh := fin (-2) (upd (upd ca k 0) k 2) sg J2 (by rw [pn_at]; decide) (fun i e => by rw [pn_ne _ _ e, pn_ne _ _ e]) (fun z => absurd (by decide) z) (fun _ _ => rfl)
    rw [show pn_o2 y2 (-2) = 1 from if_pos rfl, show pn_o3 y3 (-2) = y3 from if_pos (by decide)] at hh
    exact hh
theorem ys_404 {n k : Nat} {z c r j m : Int32} (hk : k < 4) (hm : mg (3 + k) = m) (hca : ca k = pn_ck j) (hsg : ¬ j < 0 → sg k = j) (hrp : rp (3 + k) = -1) (hr : r = 0) (hR2 : ¬ j = -2) (hc1 : (z = 0 ∧ c = 3) ∨ (¬ z = 0 ∧ c = 4)) (h : wY_classify_404 post z C T F K n (nI (k + 1)) (pn_I st rs ti ni cr hc nk ms ei us dn sa fi) (pn_O lo hi wa ic se lc rm) w q mg ou (upd rp (3 + k) (pn_Qv c r j m)) ca sg) : wY_classify_404 post z C T F K (n + 1) (nI k) (pn_I st rs ti ni cr hc nk ms ei us dn sa fi) (pn_O lo hi wa ic se lc rm) w q mg ou rp ca sg := by
  have vk : vp_in (nI k) 4 := vp_in_nI hk (by decide)
  refine br_f (pp_g4 hk) ⟨vk, ?_⟩
  rw [pp_3 hk, nI_clamp (n := k) (by omega), hca, hm]
  have n2 : ¬ c = 2 := by rcases hc1 with ⟨_, e⟩ | ⟨_, e⟩ <;> (rw [e]; decide)
  by_cases c1 : j < 0
  · rw [show pn_Qv c r j m = -1 from (if_neg n2).trans ((if_pos hr).trans (if_pos c1)), pn_self rp _ _ hrp] at h
    refine br_f ?_ (nm_r (nI_1 k) h)
    unfold pn_ck
    rw [if_neg hR2, if_pos c1]; decide
  · refine br_t (by unfold pn_ck; rw [if_neg hR2, if_neg c1]) ?_
    rcases hc1 with ⟨z0, e⟩ | ⟨z0, e⟩
    · rw [show pn_Qv c r j m = j from (if_neg n2).trans ((if_pos hr).trans ((if_neg c1).trans (if_pos e)))] at h
      refine br_t z0 ⟨vk, pp_v3 hk, ?_⟩
      rw [hsg c1]
      exact nm_e (nm_r (nI_1 k) h)
    · rw [show pn_Qv c r j m = m from (if_neg n2).trans ((if_pos hr).trans ((if_neg c1).trans (if_neg (by rw [e]; decide))))] at h
      exact br_f z0 ⟨pp_v3 hk, pp_v3 hk, nm_e (nm_r (nI_1 k) h)⟩
theorem ys_310 {n k : Nat} {r j m : Int32} (hk : k < 4) (hm : mg (3 + k) = m) (hca : ca k = pn_ck j) (hrp : rp (3 + k) = -1) (hr : ¬ r = 0) (h : wY_classify_310 post C T F K n (nI (k + 1)) (pn_I st rs ti ni cr hc nk ms ei us dn sa fi) (pn_O lo hi wa ic se lc rm) w q mg ou (upd rp (3 + k) (pn_Qv 4 r j m)) ca sg) : wY_classify_310 post C T F K (n + 1) (nI k) (pn_I st rs ti ni cr hc nk ms ei us dn sa fi) (pn_O lo hi wa ic se lc rm) w q mg ou rp ca sg := by
  have vk : vp_in (nI k) 4 := vp_in_nI hk (by decide)
  refine br_f (pp_g4 hk) ⟨vk, ?_⟩
  rw [pp_3 hk, nI_clamp (n := k) (by omega), hca, hm]
  have n2 : ¬ (4 : Int32) = 2 := by decide
  by_cases c1 : j = -2
  · rw [show pn_Qv 4 r j m = m from (if_neg n2).trans ((if_neg hr).trans ((if_pos c1).trans (if_neg (by decide))))] at h
    exact br_t (if_pos c1) ⟨pp_v3 hk, pp_v3 hk, nm_e (nm_r (nI_1 k) h)⟩
  · rw [show pn_Qv 4 r j m = -1 from (if_neg n2).trans ((if_neg hr).trans (if_neg c1)), pn_self rp _ _ hrp] at h
    refine br_f ?_ (nm_r (nI_1 k) h)
    unfold pn_ck
    rw [if_neg c1]
    by_cases c2 : j < 0
    · rw [if_pos c2]; decide
    · rw [if_neg c2]; decide
theorem ys_274 {n k : Nat} {y2 y3 : Int32} (hk : k < 4) (h : wY_classify_274 post P y2 y3 C T F K n (nI (k + 1)) (pn_I st rs ti ni cr hc nk ms ei us dn sa fi) (pn_O lo hi wa ic se lc rm) w q mg ou (upd rp (3 + k) (-1)) ca sg) : wY_classify_274 post P y2 y3 C T F K (n + 1) (nI k) (pn_I st rs ti ni cr hc nk ms ei us dn sa fi) (pn_O lo hi wa ic se lc rm) w q mg ou rp ca sg := by
  refine br_f (pp_g4 hk) ⟨pp_v3 hk, ?_⟩
  rw [pp_3 hk]
  exact nm_e (nm_r (nI_1 k) h)
theorem pn_Rj {J : Nat → Int32} (h : pn_R J = 0) : ∀ k, k < 4 → ¬ J k = -2 := by
  have s : ∀ {x j : Int32}, pn_o2 x j = 0 → x = 0 ∧ ¬ j = -2 := by
    intro x j e
    unfold pn_o2 at e
    by_cases c : j = -2
    · rw [if_pos c] at e; exact absurd e (by decide)
    · rw [if_neg c] at e; exact ⟨e, c⟩
  unfold pn_R at h
  obtain ⟨h3, j3⟩ := s h
  obtain ⟨h2, j2⟩ := s h3
  obtain ⟨h1, j1⟩ := s h2
  obtain ⟨_, j0⟩ := s h1
  intro k hk
  rcases pp_k4 hk with rfl | rfl | rfl | rfl
  · exact j0
  · exact j1
  · exact j2
  · exact j3
theorem ye_274 (HP : pn_P P p) {n : Nat} {J : Nat → Int32} {M1 : Int32} (hM : ∀ f, f < 7 → mg f = M f) (I : pn_CI J 4 ca sg) (r1 : rp 1 = M1) (r2 : rp 2 = 0) (hr : ∀ k, k < 4 → rp (3 + k) = -1) (h1 : pn_R J = 0 → pn_N J = 0 → post 1 (C, T, F, K, pn_I st rs ti ni cr hc nk ms ei us dn sa fi, pn_O lo hi wa ic se lc rm, w, q, mg, ou, rp, ca, sg)) (h0 : ¬ (pn_R J = 0 ∧ pn_N J = 0) → ∀ rp', rp' 0 = pn_C J (nk p) F → rp' 1 = M1 → rp' 2 = 0 → (∀ k, k < 4 → rp' (3 + k) = pn_Q J M (pn_C J (nk p) F) k) → post 0 (C, T, F, K, pn_I st rs ti ni cr hc nk ms ei us dn sa fi, pn_O lo hi wa ic se lc rm, w, q, mg, ou, rp', ca, sg)) : wY_classify_274 post P (pn_R J) (pn_N J) C T F K (n + 1) (nI 4) (pn_I st rs ti ni cr hc nk ms ei us dn sa fi) (pn_O lo hi wa ic se lc rm) w q mg ou rp ca sg := by
  refine br_t pp_44 ?_
  have hm : ∀ k, k < 4 → mg (3 + k) = M (3 + k) := fun k hk => hM (3 + k) (by omega)
  by_cases c1 : pn_R J = 0
  · refine br_t c1 ?_
    have jn := pn_Rj c1
    by_cases c2 : pn_N J = 0
    · exact br_t c2 (h1 c1 c2)
    · have hh := h0 (fun z => c2 z.2)
      refine br_f c2 ⟨pp_vi6 HP, ?_⟩
      rw [pp_i6 HP, pn_I_a6]
      by_cases c3 : nk p < F
      · rw [show pn_C J (nk p) F = 3 from (if_pos c1).trans ((if_neg c2).trans (if_pos c3))] at hh
        refine br_t c3 (br_t rfl (nm_e ⟨5, ?_⟩))
        refine ys_404 (k := 0) (by decide) (c := 3) (r := pn_R J) (j := J 0) (m := M (3 + 0)) (hm 0 (by decide)) (I 0 (by decide)).1 (I 0 (by decide)).2 (hr 0 (by decide)) c1 (jn 0 (by decide)) (Or.inl ⟨rfl, rfl⟩) (ys_404 (k := 1) (by decide) (c := 3) (r := pn_R J) (j := J 1) (m := M (3 + 1)) (hm 1 (by decide)) (I 1 (by decide)).1 (I 1 (by decide)).2 (hr 1 (by decide)) c1 (jn 1 (by decide)) (Or.inl ⟨rfl, rfl⟩) (ys_404 (k := 2) (by decide) (c := 3) (r := pn_R J) (j := J 2) (m := M (3 + 2)) (hm 2 (by decide)) (I 2 (by decide)).1 (I 2 (by decide)).2 (hr 2 (by decide)) c1 (jn 2 (by decide)) (Or.inl ⟨rfl, rfl⟩) (ys_404 (k := 3) (by decide) (c := 3) (r := pn_R J) (j := J 3) (m := M (3 + 3)) (hm 3 (by decide)) (I 3 (by decide)).1 (I 3 (by decide)).2 (hr 3 (by decide)) c1 (jn 3 (by decide)) (Or.inl ⟨rfl, rfl⟩) (br_t pp_44 (hh _ rfl r1 r2 ?_)))))
        intro k hk
        rcases pp_k4 hk with rfl | rfl | rfl | rfl <;> rfl
      · rw [show pn_C J (nk p) F = 4 from (if_pos c1).trans ((if_neg c2).trans (if_neg c3))] at hh
        refine br_f c3 (br_f (by decide) (nm_e ⟨5, ?_⟩))
        refine ys_404 (k := 0) (by decide) (c := 4) (r := pn_R J) (j := J 0) (m := M (3 + 0)) (hm 0 (by decide)) (I 0 (by decide)).1 (I 0 (by decide)).2 (hr 0 (by decide)) c1 (jn 0 (by decide)) (Or.inr ⟨by decide, rfl⟩) (ys_404 (k := 1) (by decide) (c := 4) (r := pn_R J) (j := J 1) (m := M (3 + 1)) (hm 1 (by decide)) (I 1 (by decide)).1 (I 1 (by decide)).2 (hr 1 (by decide)) c1 (jn 1 (by decide)) (Or.inr ⟨by decide, rfl⟩) (ys_404 (k := 2) (by decide) (c := 4) (r := pn_R J) (j := J 2) (m := M (3 + 2)) (hm 2 (by decide)) (I 2 (by decide)).1 (I 2 (by decide)).2 (hr 2 (by decide)) c1 (jn 2 (by decide)) (Or.inr ⟨by decide, rfl⟩) (ys_404 (k := 3) (by decide) (c := 4) (r := pn_R J) (j := J 3) (m := M (3 + 3)) (hm 3 (by decide)) (I 3 (by decide)).1 (I 3 (by decide)).2 (hr 3 (by decide)) c1 (jn 3 (by decide)) (Or.inr ⟨by decide, rfl⟩) (br_t pp_44 (hh _ rfl r1 r2 ?_)))))
        intro k hk
        rcases pp_k4 hk with rfl | rfl | rfl | rfl <;> rfl
  · have hh := h0 (fun z => c1 z.1)
    rw [show pn_C J (nk p) F = 4 from if_neg c1] at hh
    refine br_f c1 (nm_e ⟨5, ?_⟩)
    refine ys_310 (k := 0) (by decide) (r := pn_R J) (j := J 0) (m := M (3 + 0)) (hm 0 (by decide)) (I 0 (by decide)).1 (hr 0 (by decide)) c1 (ys_310 (k := 1) (by decide) (r := pn_R J) (j := J 1) (m := M (3 + 1)) (hm 1 (by decide)) (I 1 (by decide)).1 (hr 1 (by decide)) c1 (ys_310 (k := 2) (by decide) (r := pn_R J) (j := J 2) (m := M (3 + 2)) (hm 2 (by decide)) (I 2 (by decide)).1 (hr 2 (by decide)) c1 (ys_310 (k := 3) (by decide) (r := pn_R J) (j := J 3) (m := M (3 + 3)) (hm 3 (by decide)) (I 3 (by decide)).1 (hr 3 (by decide)) c1 (br_t pp_44 (hh _ rfl r1 r2 ?_)))))
    intro k hk
    rcases pp_k4 hk with rfl | rfl | rfl | rfl <;> rfl
theorem ya_class (HP : pn_P P p) (VO : pn_VO lo hi ic) (hM : ∀ f, f < 7 → mg f = M f) (h1 : pn_R (pn_J lo hi wa ic p M) = 0 → pn_N (pn_J lo hi wa ic p M) = 0 → ∀ rp' ca' sg', post 1 (C, T, F, K, pn_I st rs ti ni cr hc nk ms ei us dn sa fi, pn_O lo hi wa ic se lc rm, w, q, mg, ou, rp', ca', sg')) (h0 : ¬ (pn_R (pn_J lo hi wa ic p M) = 0 ∧ pn_N (pn_J lo hi wa ic p M) = 0) → ∀ rp' ca' sg', rp' 0 = pn_C (pn_J lo hi wa ic p M) (nk p) F → rp' 1 = M 1 → rp' 2 = 0 → (∀ k, k < 4 → rp' (3 + k) = pn_Q (pn_J lo hi wa ic p M) M (pn_C (pn_J lo hi wa ic p M) (nk p) F) k) → post 0 (C, T, F, K, pn_I st rs ti ni cr hc nk ms ei us dn sa fi, pn_O lo hi wa ic se lc rm, w, q, mg, ou, rp', ca', sg')) : wpY_classify post (C, T, F, K, pn_I st rs ti ni cr hc nk ms ei us dn sa fi, pn_O lo hi wa ic se lc rm, w, q, mg, ou, rp, ca, sg) P := by
  unfold wpY_classify
  have z : pn_CI (pn_J lo hi wa ic p M) 0 ca sg := fun j hj => absurd hj (Nat.not_lt_zero j)
  refine ⟨5, ys_c7 HP VO (k := 0) hM (by decide) z (fun c1 s1 I1 => ys_c7 HP VO (k := 1) hM (by decide) I1 (fun c2 s2 I2 => ys_c7 HP VO (k := 2) hM (by decide) I2 (fun c3 s3 I3 => ys_c7 HP VO (k := 3) hM (by decide) I3 (fun c4 s4 I4 => ?_))))⟩
  refine br_t pp_44 ?_
  rw [hM 1 (by decide)]
  refine nm_e (nm_e ⟨5, ?_⟩)
  refine ys_274 (k := 0) (by decide) (ys_274 (k := 1) (by decide) (ys_274 (k := 2) (by decide) (ys_274 (k := 3) (by decide) (ye_274 (J := (pn_J lo hi wa ic p M)) HP hM I4 rfl rfl ?_ (fun a b => h1 a b _ c4 s4) (fun a rp' b1 b2 b3 b4 => h0 a rp' c4 s4 b1 b2 b3 b4)))))
  intro k hk
  rcases pp_k4 hk with rfl | rfl | rfl | rfl <;> rfl
end CY
end
section
def i_Rel (_ : Nat) (u : SX) (v : SY) : Prop := ∃ (C T F K rc : Int32) (st rs ti ni cr hc nk ms ei us dn sa fi lo hi wa ic se lc rm w q ih vd ro no mg ou rp ca sg : Nat → Int32), u = (C, T, F, K, rc, st, rs, ti, ni, cr, hc, nk, ms, ei, us, dn, sa, fi, lo, hi, wa, ic, se, lc, rm, w, q, ih, vd, ro, no) ∧ v = (C, T, F, K, pn_I st rs ti ni cr hc nk ms ei us dn sa fi, pn_O lo hi wa ic se lc rm, w, q, mg, ou, rp, ca, sg) ∧ pn_V st ti lo hi ic q no
theorem i_up {k : Nat} {u : SX} {v : SY} (h : i_Rel k u v) : i_Rel (k + 5) u v := h
section PR
variable {C T F K rc : Int32} {st rs ti ni cr hc nk ms ei us dn sa fi lo hi wa ic se lc rm w q ih vd ro no mg ou rp ca sg : Nat → Int32} {P : Int32} {p : Nat}
theorem pr_mk {k : Nat} (V : pn_V st ti lo hi ic q no) : i_Rel k (C, T, F, K, rc, st, rs, ti, ni, cr, hc, nk, ms, ei, us, dn, sa, fi, lo, hi, wa, ic, se, lc, rm, w, q, ih, vd, ro, no) (C, T, F, K, pn_I st rs ti ni cr hc nk ms ei us dn sa fi, pn_O lo hi wa ic se lc rm, w, q, mg, ou, rp, ca, sg) := ⟨_, _, _, _, _, _, _, _, _, _, _, _, _, _, _, _, _, _, _, _, _, _, _, _, _, _, _, _, _, _, _, _, _, _, _, _, rfl, rfl, V⟩
end PR
def pn_H (post : SX → Prop) (p : Nat) (ih mg : Nat → Int32) (WY : (SY → Prop) → Prop) : Prop := ∀ (C T F K rc : Int32) (st rs ti ni cr hc nk ms ei us dn sa fi lo hi wa ic se lc rm w q vd ro no : Nat → Int32), pn_V st (pn_tj st ti p) lo hi ic q no → (∀ Q : SY → Prop, (∀ ou rp ca sg : Nat → Int32, Q (C, T, F, K, pn_I st rs (pn_tj st ti p) ni cr hc nk ms ei us dn sa fi, pn_O lo hi wa ic se lc rm, w, q, mg, ou, rp, ca, sg)) → WY Q) → post (C, T, F, K, rc, st, rs, ti, ni, cr, hc, nk, ms, ei, us, dn, sa, fi, lo, hi, wa, ic, se, lc, rm, w, q, ih, vd, ro, no)
section EV
variable {C T F K rc : Int32} {st rs ti ni cr hc nk ms ei us dn sa fi lo hi wa ic se lc rm w q ih vd ro no mg ou rp ca sg : Nat → Int32} {P : Int32} {p : Nat}
variable {post : SX → Prop} {M : Nat → Int32}
theorem ev_open (HP : pn_P P p) (V : pn_V st ti lo hi ic q no) (H : pn_H post p ih mg (fun Q => wpY_evOpen Q (C, T, F, K, pn_I st rs ti ni cr hc nk ms ei us dn sa fi, pn_O lo hi wa ic se lc rm, w, q, mg, ou, rp, ca, sg) P)) : wpX_onOpen post (C, T, F, K, rc, st, rs, ti, ni, cr, hc, nk, ms, ei, us, dn, sa, fi, lo, hi, wa, ic, se, lc, rm, w, q, ih, vd, ro, no) P := by
  obtain ⟨VS, VO, VQ, VN⟩ := V
  have hp := pp_lt HP
  have pv := pp_v HP
  obtain ⟨s, hs9, es, ht⟩ := VS p hp
  obtain ⟨z, hz8, ez⟩ := VQ p hp
  obtain ⟨z2, hz82, ez2⟩ := (pn_VQ_a VQ hp) p hp
  unfold wpX_onOpen
  refine ⟨pv, ?_⟩
  rw [pp_n HP]
  have hcase : s = 0 ∨ s = 1 ∨ s = 2 ∨ s = 3 ∨ s = 4 ∨ s = 5 ∨ s = 6 ∨ s = 7 ∨ s = 8 ∨ s = 9 := by omega
  rcases hcase with rfl | rfl | rfl | rfl | rfl | rfl | rfl | rfl | rfl | rfl
  · have e : st p = 0 := es
    rw [e]
    refine (nm_e (br_f (by decide) (br_f (by decide) (br_t (by decide) ⟨pv, ⟨pv, (nm_e ⟨pv, (nm_e ?_)⟩)⟩⟩))))
    have tj : ∀ t : Nat → Int32, pn_tj (upd st p 1) t p = upd t p 0 := fun t => pn_tj_off (by rw [pn_at]; decide)
    refine H _ _ _ _ _ _ _ _ _ _ _ _ _ _ _ _ _ _ _ _ _ _ _ _ _ _ _ _ _ _ ?_ (fun Q hQ => ?_)
    · rw [tj]; exact ⟨(pn_VS_u (n := 1) VS rfl (by decide) (fun j ej => by first | rfl | (rw [pn_ne _ _ ej]) | (rw [pn_ne _ _ ej, pn_ne _ _ ej])) (fun _ => pn_at _ _ _)), VO, VQ, VN⟩
    rw [tj] at hQ
    unfold wpY_evOpen
    refine ya_st HP ?_
    rw [e]
    refine (br_t (by decide) (ya_tls HP (br_f (by decide) (br_f (by decide) ?_))))
    unfold wY_evOpen_49
    exact (ya_fin0 HP (by decide) (hQ _ _ _ _))
  · have e : st p = 1 := es
    rw [e]
    refine (nm_e (br_f (by decide) (br_f (by decide) (br_f (by decide) (br_t (by decide) ?_)))))
    have tj : ∀ t : Nat → Int32, pn_tj st t p = upd t p 0 := fun t => pn_tj_off (by rw [e]; decide)
    refine H _ _ _ _ _ _ _ _ _ _ _ _ _ _ _ _ _ _ _ _ _ _ _ _ _ _ _ _ _ _ ?_ (fun Q hQ => ?_)
    · rw [tj]; exact ⟨(pn_VS_k (n := 1) VS hp es (by decide) (fun j ej => by first | rfl | (rw [pn_ne _ _ ej]) | (rw [pn_ne _ _ ej, pn_ne _ _ ej])) (fun _ => pn_at _ _ _)), VO, VQ, VN⟩
    rw [tj] at hQ
    unfold wpY_evOpen
    refine ya_st HP ?_
    rw [e]
    refine (br_f (by decide) (br_f (by decide) (br_f (by decide) ?_)))
    unfold wY_evOpen_49
    exact (ya_fins0 HP e (by decide) (hQ _ _ _ _))
  · have e : st p = 2 := es
    rw [e]
    refine (nm_e (br_f (by decide) (br_f (by decide) (br_f (by decide) (br_f (by decide) (br_t (by decide) (xa_breq HP ez hz8 ?_)))))))
    have tj : ∀ t : Nat → Int32, pn_tj (upd st p 6) t p = t := fun t => pn_tj_on (by rw [pn_at]; decide) (by rw [pn_at]; decide)
    refine H _ _ _ _ _ _ _ _ _ _ _ _ _ _ _ _ _ _ _ _ _ _ _ _ _ _ _ _ _ _ ?_ (fun Q hQ => ?_)
    · rw [tj]; exact ⟨(pn_VS_u (n := 6) VS rfl (by decide) (fun j ej => by first | rfl | (rw [pn_ne _ _ ej]) | (rw [pn_ne _ _ ej, pn_ne _ _ ej])) (fun z => absurd z (by decide))), (pn_VO_in VO), (pn_VQ_a VQ hp), VN⟩
    rw [tj] at hQ
    unfold wpY_evOpen
    refine ya_st HP ?_
    rw [e]
    refine (br_f (by decide) (br_t (by decide) (ya_start HP (ya_ircC HP (ya_scr HP (pn_VO_in VO) ez hz8 (fun _ => (br_f (by decide) ?_)))))))
    unfold wY_evOpen_49
    exact (ya_fin1 HP (by decide) (by decide) (hQ _ _ _ _))
  · have e : st p = 3 := es
    rw [e]
    refine (nm_e (br_f (by decide) (br_f (by decide) (br_f (by decide) (br_f (by decide) (br_f (by decide) (br_t (by decide) ?_)))))))
    have tj : ∀ t : Nat → Int32, pn_tj st t p = upd t p 0 := fun t => pn_tj_off (by rw [e]; decide)
    refine H _ _ _ _ _ _ _ _ _ _ _ _ _ _ _ _ _ _ _ _ _ _ _ _ _ _ _ _ _ _ ?_ (fun Q hQ => ?_)
    · rw [tj]; exact ⟨(pn_VS_k (n := 3) VS hp es (by decide) (fun j ej => by first | rfl | (rw [pn_ne _ _ ej]) | (rw [pn_ne _ _ ej, pn_ne _ _ ej])) (fun _ => pn_at _ _ _)), VO, VQ, VN⟩
    rw [tj] at hQ
    unfold wpY_evOpen
    refine ya_st HP ?_
    rw [e]
    refine (br_f (by decide) (br_f (by decide) (br_f (by decide) ?_)))
    unfold wY_evOpen_49
    exact (ya_fins0 HP e (by decide) (hQ _ _ _ _))
  · have e : st p = 4 := es
    rw [e]
    refine (nm_e (br_f (by decide) (br_f (by decide) (br_f (by decide) (br_f (by decide) (br_f (by decide) (br_f (by decide) (br_t (by decide) ⟨pv, (nm_e ?_)⟩))))))))
    have tj : ∀ t : Nat → Int32, pn_tj (upd st p 5) t p = t := fun t => pn_tj_on (by rw [pn_at]; decide) (by rw [pn_at]; decide)
    refine H _ _ _ _ _ _ _ _ _ _ _ _ _ _ _ _ _ _ _ _ _ _ _ _ _ _ _ _ _ _ ?_ (fun Q hQ => ?_)
    · rw [tj]; exact ⟨(pn_VS_u (n := 5) VS rfl (by decide) (fun j ej => by first | rfl | (rw [pn_ne _ _ ej]) | (rw [pn_ne _ _ ej, pn_ne _ _ ej])) (fun z => absurd z (by decide))), VO, VQ, VN⟩
    rw [tj] at hQ
    unfold wpY_evOpen
    refine ya_st HP ?_
    rw [e]
    refine (br_f (by decide) (br_f (by decide) (br_t (by decide) ?_)))
    unfold wY_evOpen_49
    exact (ya_fin1 HP (by decide) (by decide) (hQ _ _ _ _))
  · have e : st p = 5 := es
    rw [e]
    refine (nm_e (br_f (by decide) (br_t (by decide) ?_)))
    have tj : ∀ t : Nat → Int32, pn_tj st t p = t := fun t => pn_tj_on (by rw [e]; decide) (by rw [e]; decide)
    refine H _ _ _ _ _ _ _ _ _ _ _ _ _ _ _ _ _ _ _ _ _ _ _ _ _ _ _ _ _ _ ?_ (fun Q hQ => ?_)
    · rw [tj]; exact ⟨(pn_VS_k (n := 5) VS hp es (by decide) (fun j ej => by first | rfl | (rw [pn_ne _ _ ej]) | (rw [pn_ne _ _ ej, pn_ne _ _ ej])) (fun z => absurd z (by decide))), VO, VQ, VN⟩
    rw [tj] at hQ
    unfold wpY_evOpen
    refine ya_st HP ?_
    rw [e]
    refine (br_f (by decide) (br_f (by decide) (br_f (by decide) ?_)))
    unfold wY_evOpen_49
    exact (ya_fins1 HP e (by decide) (by decide) (hQ _ _ _ _))
  · have e : st p = 6 := es
    rw [e]
    refine (nm_e (br_f (by decide) (br_t (by decide) ?_)))
    have tj : ∀ t : Nat → Int32, pn_tj st t p = t := fun t => pn_tj_on (by rw [e]; decide) (by rw [e]; decide)
    refine H _ _ _ _ _ _ _ _ _ _ _ _ _ _ _ _ _ _ _ _ _ _ _ _ _ _ _ _ _ _ ?_ (fun Q hQ => ?_)
    · rw [tj]; exact ⟨(pn_VS_k (n := 6) VS hp es (by decide) (fun j ej => by first | rfl | (rw [pn_ne _ _ ej]) | (rw [pn_ne _ _ ej, pn_ne _ _ ej])) (fun z => absurd z (by decide))), VO, VQ, VN⟩
    rw [tj] at hQ
    unfold wpY_evOpen
    refine ya_st HP ?_
    rw [e]
    refine (br_f (by decide) (br_f (by decide) (br_f (by decide) ?_)))
    unfold wY_evOpen_49
    exact (ya_fins1 HP e (by decide) (by decide) (hQ _ _ _ _))
  · have e : st p = 7 := es
    rw [e]
    refine (nm_e (br_f (by decide) (br_t (by decide) ?_)))
    have tj : ∀ t : Nat → Int32, pn_tj st t p = t := fun t => pn_tj_on (by rw [e]; decide) (by rw [e]; decide)
    refine H _ _ _ _ _ _ _ _ _ _ _ _ _ _ _ _ _ _ _ _ _ _ _ _ _ _ _ _ _ _ ?_ (fun Q hQ => ?_)
    · rw [tj]; exact ⟨(pn_VS_k (n := 7) VS hp es (by decide) (fun j ej => by first | rfl | (rw [pn_ne _ _ ej]) | (rw [pn_ne _ _ ej, pn_ne _ _ ej])) (fun z => absurd z (by decide))), VO, VQ, VN⟩
    rw [tj] at hQ
    unfold wpY_evOpen
    refine ya_st HP ?_
    rw [e]
    refine (br_f (by decide) (br_f (by decide) (br_f (by decide) ?_)))
    unfold wY_evOpen_49
    exact (ya_fins1 HP e (by decide) (by decide) (hQ _ _ _ _))
  · have e : st p = 8 := es
    rw [e]
    refine (nm_e (br_f (by decide) (br_t (by decide) ?_)))
    have tj : ∀ t : Nat → Int32, pn_tj st t p = t := fun t => pn_tj_on (by rw [e]; decide) (by rw [e]; decide)
    refine H _ _ _ _ _ _ _ _ _ _ _ _ _ _ _ _ _ _ _ _ _ _ _ _ _ _ _ _ _ _ ?_ (fun Q hQ => ?_)
    · rw [tj]; exact ⟨(pn_VS_k (n := 8) VS hp es (by decide) (fun j ej => by first | rfl | (rw [pn_ne _ _ ej]) | (rw [pn_ne _ _ ej, pn_ne _ _ ej])) (fun z => absurd z (by decide))), VO, VQ, VN⟩
    rw [tj] at hQ
    unfold wpY_evOpen
    refine ya_st HP ?_
    rw [e]
    refine (br_f (by decide) (br_f (by decide) (br_f (by decide) ?_)))
    unfold wY_evOpen_49
    exact (ya_fins1 HP e (by decide) (by decide) (hQ _ _ _ _))
  · have e : st p = 9 := es
    rw [e]
    refine (nm_e (br_f (by decide) (br_t (by decide) ?_)))
    have tj : ∀ t : Nat → Int32, pn_tj st t p = upd t p 0 := fun t => pn_tj_off (by rw [e]; decide)
    refine H _ _ _ _ _ _ _ _ _ _ _ _ _ _ _ _ _ _ _ _ _ _ _ _ _ _ _ _ _ _ ?_ (fun Q hQ => ?_)
    · rw [tj]; exact ⟨(pn_VS_k (n := 9) VS hp es (by decide) (fun j ej => by first | rfl | (rw [pn_ne _ _ ej]) | (rw [pn_ne _ _ ej, pn_ne _ _ ej])) (fun _ => pn_at _ _ _)), VO, VQ, VN⟩
    rw [tj] at hQ
    unfold wpY_evOpen
    refine ya_st HP ?_
    rw [e]
    refine (br_f (by decide) (br_f (by decide) (br_f (by decide) ?_)))
    unfold wY_evOpen_49
    exact (ya_fins0 HP e (by decide) (hQ _ _ _ _))
theorem ev_close (HP : pn_P P p) (V : pn_V st ti lo hi ic q no) (H : pn_H post p ih mg (fun Q => wpY_evClose Q (C, T, F, K, pn_I st rs ti ni cr hc nk ms ei us dn sa fi, pn_O lo hi wa ic se lc rm, w, q, mg, ou, rp, ca, sg) P)) : wpX_onClose post (C, T, F, K, rc, st, rs, ti, ni, cr, hc, nk, ms, ei, us, dn, sa, fi, lo, hi, wa, ic, se, lc, rm, w, q, ih, vd, ro, no) P := by
  obtain ⟨VS, VO, VQ, VN⟩ := V
  have hp := pp_lt HP
  have pv := pp_v HP
  obtain ⟨s, hs9, es, ht⟩ := VS p hp
  obtain ⟨z, hz8, ez⟩ := VQ p hp
  obtain ⟨z2, hz82, ez2⟩ := (pn_VQ_a VQ hp) p hp
  unfold wpX_onClose wX_onClose_96
  refine ⟨pv, ?_⟩
  rw [pp_n HP]
  have hcase : s = 0 ∨ s = 1 ∨ s = 2 ∨ s = 3 ∨ s = 4 ∨ s = 5 ∨ s = 6 ∨ s = 7 ∨ s = 8 ∨ s = 9 := by omega
  rcases hcase with rfl | rfl | rfl | rfl | rfl | rfl | rfl | rfl | rfl | rfl
  · have e : st p = 0 := es
    rw [e]
    refine (nm_e (br_t (by decide) ?_))
    have tj : ∀ t : Nat → Int32, pn_tj st t p = upd t p 0 := fun t => pn_tj_off (by rw [e]; decide)
    refine H _ _ _ _ _ _ _ _ _ _ _ _ _ _ _ _ _ _ _ _ _ _ _ _ _ _ _ _ _ _ ?_ (fun Q hQ => ?_)
    · rw [tj]; exact ⟨(pn_VS_k (n := 0) VS hp es (by decide) (fun j ej => by first | rfl | (rw [pn_ne _ _ ej]) | (rw [pn_ne _ _ ej, pn_ne _ _ ej])) (fun _ => pn_at _ _ _)), VO, VQ, VN⟩
    rw [tj] at hQ
    unfold wpY_evClose
    refine ya_st HP ?_
    rw [e]
    refine (br_f (by decide) (br_f (by decide) (br_f (by decide) (br_f (by decide) (br_t (by decide) ?_)))))
    unfold wY_evClose_63
    exact (ya_fins0 HP e (by decide) (hQ _ _ _ _))
  · have e : st p = 1 := es
    rw [e]
    refine (nm_e (br_f (by decide) (br_f (by decide) (br_t (by decide) ⟨pv, ⟨pv, (nm_e ⟨pv, (nm_e ?_)⟩)⟩⟩))))
    have tj : ∀ t : Nat → Int32, pn_tj (upd st p 0) t p = upd t p 0 := fun t => pn_tj_off (by rw [pn_at]; decide)
    refine H _ _ _ _ _ _ _ _ _ _ _ _ _ _ _ _ _ _ _ _ _ _ _ _ _ _ _ _ _ _ ?_ (fun Q hQ => ?_)
    · rw [tj]; exact ⟨(pn_VS_u (n := 0) VS rfl (by decide) (fun j ej => by first | rfl | (rw [pn_ne _ _ ej]) | (rw [pn_ne _ _ ej, pn_ne _ _ ej])) (fun _ => pn_at _ _ _)), VO, VQ, VN⟩
    rw [tj] at hQ
    unfold wpY_evClose
    refine ya_st HP ?_
    rw [e]
    refine (br_t (by decide) (ya_tlf HP (br_f (by decide) (br_f (by decide) (br_f (by decide) (br_t (by decide) ?_))))))
    unfold wY_evClose_63
    exact (ya_fin0 HP (by decide) (hQ _ _ _ _))
  · have e : st p = 2 := es
    rw [e]
    refine (nm_e (br_f (by decide) (br_f (by decide) (br_f (by decide) (br_t (by decide) ?_)))))
    have tj : ∀ t : Nat → Int32, pn_tj st t p = upd t p 0 := fun t => pn_tj_off (by rw [e]; decide)
    refine H _ _ _ _ _ _ _ _ _ _ _ _ _ _ _ _ _ _ _ _ _ _ _ _ _ _ _ _ _ _ ?_ (fun Q hQ => ?_)
    · rw [tj]; exact ⟨(pn_VS_k (n := 2) VS hp es (by decide) (fun j ej => by first | rfl | (rw [pn_ne _ _ ej]) | (rw [pn_ne _ _ ej, pn_ne _ _ ej])) (fun _ => pn_at _ _ _)), VO, VQ, VN⟩
    rw [tj] at hQ
    unfold wpY_evClose
    refine ya_st HP ?_
    rw [e]
    refine (br_f (by decide) (br_f (by decide) (br_f (by decide) (br_f (by decide) (br_t (by decide) ?_)))))
    unfold wY_evClose_63
    exact (ya_fins0 HP e (by decide) (hQ _ _ _ _))
  · have e : st p = 3 := es
    rw [e]
    refine (nm_e (br_f (by decide) (br_f (by decide) (br_f (by decide) (br_f (by decide) (br_t (by decide) ⟨pv, (nm_e ?_)⟩))))))
    have tj : ∀ t : Nat → Int32, pn_tj (upd st p 2) t p = upd t p 0 := fun t => pn_tj_off (by rw [pn_at]; decide)
    refine H _ _ _ _ _ _ _ _ _ _ _ _ _ _ _ _ _ _ _ _ _ _ _ _ _ _ _ _ _ _ ?_ (fun Q hQ => ?_)
    · rw [tj]; exact ⟨(pn_VS_u (n := 2) VS rfl (by decide) (fun j ej => by first | rfl | (rw [pn_ne _ _ ej]) | (rw [pn_ne _ _ ej, pn_ne _ _ ej])) (fun _ => pn_at _ _ _)), VO, VQ, VN⟩
    rw [tj] at hQ
    unfold wpY_evClose
    refine ya_st HP ?_
    rw [e]
    refine (br_f (by decide) (br_t (by decide) (br_f (by decide) (br_f (by decide) (br_t (by decide) ?_)))))
    unfold wY_evClose_63
    exact (ya_fin0 HP (by decide) (hQ _ _ _ _))
  · have e : st p = 4 := es
    rw [e]
    refine (nm_e (br_f (by decide) (br_f (by decide) (br_f (by decide) (br_f (by decide) (br_f (by decide) (br_t (by decide) ?_)))))))
    have tj : ∀ t : Nat → Int32, pn_tj st t p = t := fun t => pn_tj_on (by rw [e]; decide) (by rw [e]; decide)
    refine H _ _ _ _ _ _ _ _ _ _ _ _ _ _ _ _ _ _ _ _ _ _ _ _ _ _ _ _ _ _ ?_ (fun Q hQ => ?_)
    · rw [tj]; exact ⟨(pn_VS_k (n := 4) VS hp es (by decide) (fun j ej => by first | rfl | (rw [pn_ne _ _ ej]) | (rw [pn_ne _ _ ej, pn_ne _ _ ej])) (fun z => absurd z (by decide))), VO, VQ, VN⟩
    rw [tj] at hQ
    unfold wpY_evClose
    refine ya_st HP ?_
    rw [e]
    refine (br_f (by decide) (br_f (by decide) (br_f (by decide) (br_f (by decide) (br_t (by decide) ?_)))))
    unfold wY_evClose_63
    exact (ya_fins1 HP e (by decide) (by decide) (hQ _ _ _ _))
  · have e : st p = 5 := es
    rw [e]
    refine (nm_e (br_f (by decide) (br_f (by decide) (br_f (by decide) (br_f (by decide) (br_f (by decide) (br_f (by decide) (br_t (by decide) ⟨pv, (nm_e ?_)⟩))))))))
    have tj : ∀ t : Nat → Int32, pn_tj (upd st p 4) t p = t := fun t => pn_tj_on (by rw [pn_at]; decide) (by rw [pn_at]; decide)
    refine H _ _ _ _ _ _ _ _ _ _ _ _ _ _ _ _ _ _ _ _ _ _ _ _ _ _ _ _ _ _ ?_ (fun Q hQ => ?_)
    · rw [tj]; exact ⟨(pn_VS_u (n := 4) VS rfl (by decide) (fun j ej => by first | rfl | (rw [pn_ne _ _ ej]) | (rw [pn_ne _ _ ej, pn_ne _ _ ej])) (fun z => absurd z (by decide))), VO, VQ, VN⟩
    rw [tj] at hQ
    unfold wpY_evClose
    refine ya_st HP ?_
    rw [e]
    refine (br_f (by decide) (br_f (by decide) (br_t (by decide) (br_f (by decide) (br_t (by decide) ?_)))))
    unfold wY_evClose_63
    exact (ya_fin1 HP (by decide) (by decide) (hQ _ _ _ _))
  · have e : st p = 6 := es
    rw [e]
    refine (nm_e (br_f (by decide) (br_f (by decide) (br_f (by decide) (br_f (by decide) (br_f (by decide) (br_f (by decide) (br_f (by decide) (br_t (by decide) (xa_bterm HP VN ez hz8 ?_))))))))))
    have tj : ∀ t : Nat → Int32, pn_tj (upd st p 4) t p = t := fun t => pn_tj_on (by rw [pn_at]; decide) (by rw [pn_at]; decide)
    refine H _ _ _ _ _ _ _ _ _ _ _ _ _ _ _ _ _ _ _ _ _ _ _ _ _ _ _ _ _ _ ?_ (fun Q hQ => ?_)
    · rw [tj]; exact ⟨(pn_VS_u (n := 4) VS rfl (by decide) (fun j ej => by first | rfl | (rw [pn_ne _ _ ej]) | (rw [pn_ne _ _ ej, pn_ne _ _ ej])) (fun z => absurd z (by decide))), VO, (pn_VQ_a VQ hp), VN⟩
    rw [tj] at hQ
    unfold wpY_evClose
    refine ya_st HP ?_
    rw [e]
    refine (br_f (by decide) (br_f (by decide) (br_f (by decide) (br_f (by decide) (br_f (by decide) (ya_ircT HP (ya_str HP ez hz8 (fun _ => ?_))))))))
    unfold wY_evClose_63
    exact (ya_fin1 HP (by decide) (by decide) (hQ _ _ _ _))
  · have e : st p = 7 := es
    rw [e]
    refine (nm_e (br_f (by decide) (br_f (by decide) (br_f (by decide) (br_f (by decide) (br_f (by decide) (br_f (by decide) (br_f (by decide) (br_f (by decide) (br_t (by decide) (xa_bterm HP VN ez hz8 ?_)))))))))))
    have tj : ∀ t : Nat → Int32, pn_tj (upd st p 4) t p = t := fun t => pn_tj_on (by rw [pn_at]; decide) (by rw [pn_at]; decide)
    refine H _ _ _ _ _ _ _ _ _ _ _ _ _ _ _ _ _ _ _ _ _ _ _ _ _ _ _ _ _ _ ?_ (fun Q hQ => ?_)
    · rw [tj]; exact ⟨(pn_VS_u (n := 4) VS rfl (by decide) (fun j ej => by first | rfl | (rw [pn_ne _ _ ej]) | (rw [pn_ne _ _ ej, pn_ne _ _ ej])) (fun z => absurd z (by decide))), VO, (pn_VQ_a VQ hp), VN⟩
    rw [tj] at hQ
    unfold wpY_evClose
    refine ya_st HP ?_
    rw [e]
    refine (br_f (by decide) (br_f (by decide) (br_f (by decide) (br_f (by decide) (br_f (by decide) (ya_ircT HP (ya_str HP ez hz8 (fun _ => ?_))))))))
    unfold wY_evClose_63
    exact (ya_fin1 HP (by decide) (by decide) (hQ _ _ _ _))
  · have e : st p = 8 := es
    rw [e]
    refine (nm_e (br_f (by decide) (br_f (by decide) (br_f (by decide) (br_f (by decide) (br_f (by decide) (br_f (by decide) (br_f (by decide) (br_f (by decide) (br_f (by decide) (br_t (by decide) (xa_bterm HP VN ez hz8 ?_))))))))))))
    have tj : ∀ t : Nat → Int32, pn_tj (upd st p 4) t p = t := fun t => pn_tj_on (by rw [pn_at]; decide) (by rw [pn_at]; decide)
    refine H _ _ _ _ _ _ _ _ _ _ _ _ _ _ _ _ _ _ _ _ _ _ _ _ _ _ _ _ _ _ ?_ (fun Q hQ => ?_)
    · rw [tj]; exact ⟨(pn_VS_u (n := 4) VS rfl (by decide) (fun j ej => by first | rfl | (rw [pn_ne _ _ ej]) | (rw [pn_ne _ _ ej, pn_ne _ _ ej])) (fun z => absurd z (by decide))), VO, (pn_VQ_a VQ hp), VN⟩
    rw [tj] at hQ
    unfold wpY_evClose
    refine ya_st HP ?_
    rw [e]
    refine (br_f (by decide) (br_f (by decide) (br_f (by decide) (br_f (by decide) (br_f (by decide) (ya_ircT HP (ya_str HP ez hz8 (fun _ => ?_))))))))
    unfold wY_evClose_63
    exact (ya_fin1 HP (by decide) (by decide) (hQ _ _ _ _))
  · have e : st p = 9 := es
    rw [e]
    refine (nm_e (br_f (by decide) (br_f (by decide) (br_f (by decide) (br_f (by decide) (br_f (by decide) (br_f (by decide) (br_f (by decide) (br_f (by decide) (br_f (by decide) (br_f (by decide) (br_t (by decide) ⟨pv, ⟨pv, (nm_e (xa_bterm HP VN ez hz8 ?_))⟩⟩))))))))))))
    have tj : ∀ t : Nat → Int32, pn_tj (upd st p 4) t p = t := fun t => pn_tj_on (by rw [pn_at]; decide) (by rw [pn_at]; decide)
    refine H _ _ _ _ _ _ _ _ _ _ _ _ _ _ _ _ _ _ _ _ _ _ _ _ _ _ _ _ _ _ ?_ (fun Q hQ => ?_)
    · rw [tj]; exact ⟨(pn_VS_u (n := 4) VS rfl (by decide) (fun j ej => by first | rfl | (rw [pn_ne _ _ ej]) | (rw [pn_ne _ _ ej, pn_ne _ _ ej])) (fun z => absurd z (by decide))), VO, (pn_VQ_a VQ hp), VN⟩
    rw [tj] at hQ
    unfold wpY_evClose
    refine ya_st HP ?_
    rw [e]
    refine (br_f (by decide) (br_f (by decide) (br_f (by decide) (br_t (by decide) (ya_tld HP (br_f (by decide) (ya_ircT HP (ya_str HP ez hz8 (fun _ => ?_)))))))))
    unfold wY_evClose_63
    exact (ya_fin1 HP (by decide) (by decide) (hQ _ _ _ _))
theorem ev_good (HP : pn_P P p) (V : pn_V st ti lo hi ic q no) (hM : ∀ f, f < 7 → ih f = M f) (hN : ∀ f, f < 7 → mg f = M f) (h2s : 2 ≤ st p) (hro : ∀ k, k < 4 → ro k = (fun j => M (3 + j)) k) (H : pn_H post p ih mg (fun Q => ∀ rp ca sg : Nat → Int32, wpY_rcrPlus Q (C, T, F, K, pn_I st rs ti ni cr hc nk ms ei us dn sa fi, pn_O lo hi wa ic se lc rm, w, q, mg, ou, rp, ca, sg) P)) : wpX_onGoodRequest post (C, T, F, K, rc, st, rs, ti, ni, cr, hc, nk, ms, ei, us, dn, sa, fi, lo, hi, wa, ic, se, lc, rm, w, q, ih, vd, ro, no) P := by
  obtain ⟨VS, VO, VQ, VN⟩ := V
  have hp := pp_lt HP
  have pv := pp_v HP
  obtain ⟨s, hs9, es, ht⟩ := VS p hp
  obtain ⟨z, hz8, ez⟩ := VQ p hp
  obtain ⟨z2, hz82, ez2⟩ := (pn_VQ_a VQ hp) p hp
  have hs2 : 2 ≤ s := by
    rw [es] at h2s
    exact (nI_leI (a := 2) (by decide) (by omega)).mp h2s
  have m1 := hM 1 (by decide)
  have y1 := hN 1 (by decide)
  have hmr : ∀ k, k < 4 → mg (3 + k) = (fun j => M (3 + j)) k := fun k hk => hN (3 + k) (by omega)
  unfold wpX_onGoodRequest wX_onGoodRequest_91
  refine ⟨pv, ?_⟩
  rw [pp_n HP]
  have hcase : s = 2 ∨ s = 3 ∨ s = 4 ∨ s = 5 ∨ s = 6 ∨ s = 7 ∨ s = 8 ∨ s = 9 := by omega
  rcases hcase with rfl | rfl | rfl | rfl | rfl | rfl | rfl | rfl
  · have e : st p = 2 := es
    rw [e]
    refine (nm_e (br_f (by decide) (br_f (by decide) (br_t (by decide) (xa_sta HP VN ez hz8 m1 ?_)))))
    have tj : ∀ t : Nat → Int32, pn_tj st t p = upd t p 0 := fun t => pn_tj_off (by rw [e]; decide)
    refine H _ _ _ _ _ _ _ _ _ _ _ _ _ _ _ _ _ _ _ _ _ _ _ _ _ _ _ _ _ _ ?_ (fun Q hQ => ?_)
    · rw [tj]; exact ⟨(pn_VS_k (n := 2) VS hp es (by decide) (fun j ej => by first | rfl | (rw [pn_ne _ _ ej]) | (rw [pn_ne _ _ ej, pn_ne _ _ ej])) (fun _ => pn_at _ _ _)), VO, (pn_VQ_a VQ hp), VN⟩
    rw [tj] at hQ
    intro rp0 ca0 sg0
    unfold wpY_rcrPlus
    refine ya_st HP ?_
    rw [e]
    refine (br_t (by decide) (ya_sta HP ez hz8 y1 (fun _ => (br_f (by decide) (br_f (by decide) (br_f (by decide) (br_f (by decide) (br_f (by decide) ?_))))))))
    unfold wY_rcrPlus_109
    exact (ya_fins0 HP e (by decide) (hQ _ _ _ _))
  · have e : st p = 3 := es
    rw [e]
    refine (nm_e (br_f (by decide) (br_f (by decide) (br_f (by decide) (br_t (by decide) ⟨pv, (nm_e (xa_scr HP ez hz8 (xa_sca HP ez2 hz82 m1 hro ⟨pv, (nm_e ?_)⟩)))⟩)))))
    have tj : ∀ t : Nat → Int32, pn_tj (upd st p 8) t p = t := fun t => pn_tj_on (by rw [pn_at]; decide) (by rw [pn_at]; decide)
    refine H _ _ _ _ _ _ _ _ _ _ _ _ _ _ _ _ _ _ _ _ _ _ _ _ _ _ _ _ _ _ ?_ (fun Q hQ => ?_)
    · rw [tj]; exact ⟨(pn_VS_u (n := 8) VS rfl (by decide) (fun j ej => by first | rfl | (rw [pn_ne _ _ ej]) | (rw [pn_ne _ _ ej, pn_ne _ _ ej])) (fun z => absurd z (by decide))), VO, (pn_VQ_a (pn_VQ_a VQ hp) hp), VN⟩
    rw [tj] at hQ
    intro rp0 ca0 sg0
    unfold wpY_rcrPlus
    refine ya_st HP ?_
    rw [e]
    refine (br_f (by decide) (br_t (by decide) (ya_ircC HP (ya_scr HP VO ez hz8 (fun _ => (ya_sca HP ez2 hz82 y1 hmr (fun _ => (br_f (by decide) (br_f (by decide) (br_f (by decide) (br_f (by decide) ?_)))))))))))
    unfold wY_rcrPlus_109
    exact (ya_fin1 HP (by decide) (by decide) (hQ _ _ _ _))
  · have e : st p = 4 := es
    rw [e]
    refine (nm_e (br_f (by decide) (br_f (by decide) (br_f (by decide) (br_f (by decide) (br_t (by decide) ?_))))))
    have tj : ∀ t : Nat → Int32, pn_tj st t p = t := fun t => pn_tj_on (by rw [e]; decide) (by rw [e]; decide)
    refine H _ _ _ _ _ _ _ _ _ _ _ _ _ _ _ _ _ _ _ _ _ _ _ _ _ _ _ _ _ _ ?_ (fun Q hQ => ?_)
    · rw [tj]; exact ⟨(pn_VS_k (n := 4) VS hp es (by decide) (fun j ej => by first | rfl | (rw [pn_ne _ _ ej]) | (rw [pn_ne _ _ ej, pn_ne _ _ ej])) (fun z => absurd z (by decide))), VO, VQ, VN⟩
    rw [tj] at hQ
    intro rp0 ca0 sg0
    unfold wpY_rcrPlus
    refine ya_st HP ?_
    rw [e]
    refine (br_f (by decide) (br_f (by decide) (br_f (by decide) (br_f (by decide) (br_f (by decide) (br_f (by decide) ?_))))))
    unfold wY_rcrPlus_109
    exact (ya_fins1 HP e (by decide) (by decide) (hQ _ _ _ _))
  · have e : st p = 5 := es
    rw [e]
    refine (nm_e (br_f (by decide) (br_f (by decide) (br_f (by decide) (br_f (by decide) (br_f (by decide) (br_t (by decide) ?_)))))))
    have tj : ∀ t : Nat → Int32, pn_tj st t p = t := fun t => pn_tj_on (by rw [e]; decide) (by rw [e]; decide)
    refine H _ _ _ _ _ _ _ _ _ _ _ _ _ _ _ _ _ _ _ _ _ _ _ _ _ _ _ _ _ _ ?_ (fun Q hQ => ?_)
    · rw [tj]; exact ⟨(pn_VS_k (n := 5) VS hp es (by decide) (fun j ej => by first | rfl | (rw [pn_ne _ _ ej]) | (rw [pn_ne _ _ ej, pn_ne _ _ ej])) (fun z => absurd z (by decide))), VO, VQ, VN⟩
    rw [tj] at hQ
    intro rp0 ca0 sg0
    unfold wpY_rcrPlus
    refine ya_st HP ?_
    rw [e]
    refine (br_f (by decide) (br_f (by decide) (br_f (by decide) (br_f (by decide) (br_f (by decide) (br_f (by decide) ?_))))))
    unfold wY_rcrPlus_109
    exact (ya_fins1 HP e (by decide) (by decide) (hQ _ _ _ _))
  · have e : st p = 6 := es
    rw [e]
    refine (nm_e (br_f (by decide) (br_f (by decide) (br_f (by decide) (br_f (by decide) (br_f (by decide) (br_f (by decide) (br_t (by decide) (xa_sca HP ez hz8 m1 hro ⟨pv, (nm_e ?_)⟩)))))))))
    have tj : ∀ t : Nat → Int32, pn_tj (upd st p 8) t p = t := fun t => pn_tj_on (by rw [pn_at]; decide) (by rw [pn_at]; decide)
    refine H _ _ _ _ _ _ _ _ _ _ _ _ _ _ _ _ _ _ _ _ _ _ _ _ _ _ _ _ _ _ ?_ (fun Q hQ => ?_)
    · rw [tj]; exact ⟨(pn_VS_u (n := 8) VS rfl (by decide) (fun j ej => by first | rfl | (rw [pn_ne _ _ ej]) | (rw [pn_ne _ _ ej, pn_ne _ _ ej])) (fun z => absurd z (by decide))), VO, (pn_VQ_a VQ hp), VN⟩
    rw [tj] at hQ
    intro rp0 ca0 sg0
    unfold wpY_rcrPlus
    refine ya_st HP ?_
    rw [e]
    refine (br_f (by decide) (br_f (by decide) (br_t (by decide) (ya_sca HP ez hz8 y1 hmr (fun _ => (br_f (by decide) (br_f (by decide) (br_f (by decide) ?_))))))))
    unfold wY_rcrPlus_109
    exact (ya_fin1 HP (by decide) (by decide) (hQ _ _ _ _))
  · have e : st p = 7 := es
    rw [e]
    refine (nm_e (br_f (by decide) (br_f (by decide) (br_f (by decide) (br_f (by decide) (br_f (by decide) (br_f (by decide) (br_f (by decide) (br_t (by decide) (xa_sca HP ez hz8 m1 hro (xa_tlu HP ⟨pv, (nm_e ?_)⟩)))))))))))
    have tj : ∀ t : Nat → Int32, pn_tj (upd st p 9) t p = upd t p 0 := fun t => pn_tj_off (by rw [pn_at]; decide)
    refine H _ _ _ _ _ _ _ _ _ _ _ _ _ _ _ _ _ _ _ _ _ _ _ _ _ _ _ _ _ _ ?_ (fun Q hQ => ?_)
    · rw [tj]; exact ⟨(pn_VS_u (n := 9) VS rfl (by decide) (fun j ej => by first | rfl | (rw [pn_ne _ _ ej]) | (rw [pn_ne _ _ ej, pn_ne _ _ ej])) (fun _ => pn_at _ _ _)), VO, (pn_VQ_a VQ hp), VN⟩
    rw [tj] at hQ
    intro rp0 ca0 sg0
    unfold wpY_rcrPlus
    refine ya_st HP ?_
    rw [e]
    refine (br_f (by decide) (br_f (by decide) (br_f (by decide) (br_t (by decide) (ya_sca HP ez hz8 y1 hmr (fun _ => (ya_tlu HP (br_f (by decide) (br_f (by decide) ?_)))))))))
    unfold wY_rcrPlus_109
    exact (ya_fin0 HP (by decide) (hQ _ _ _ _))
  · have e : st p = 8 := es
    rw [e]
    refine (nm_e (br_f (by decide) (br_f (by decide) (br_f (by decide) (br_f (by decide) (br_f (by decide) (br_f (by decide) (br_f (by decide) (br_f (by decide) (br_t (by decide) (xa_sca HP ez hz8 m1 hro ⟨pv, (nm_e ?_)⟩)))))))))))
    have tj : ∀ t : Nat → Int32, pn_tj (upd st p 8) t p = t := fun t => pn_tj_on (by rw [pn_at]; decide) (by rw [pn_at]; decide)
    refine H _ _ _ _ _ _ _ _ _ _ _ _ _ _ _ _ _ _ _ _ _ _ _ _ _ _ _ _ _ _ ?_ (fun Q hQ => ?_)
    · rw [tj]; exact ⟨(pn_VS_u (n := 8) VS rfl (by decide) (fun j ej => by first | rfl | (rw [pn_ne _ _ ej]) | (rw [pn_ne _ _ ej, pn_ne _ _ ej])) (fun z => absurd z (by decide))), VO, (pn_VQ_a VQ hp), VN⟩
    rw [tj] at hQ
    intro rp0 ca0 sg0
    unfold wpY_rcrPlus
    refine ya_st HP ?_
    rw [e]
    refine (br_f (by decide) (br_f (by decide) (br_f (by decide) (br_f (by decide) (br_t (by decide) (ya_sca HP ez hz8 y1 hmr (fun _ => (br_f (by decide) ?_))))))))
    unfold wY_rcrPlus_109
    exact (ya_fin1 HP (by decide) (by decide) (hQ _ _ _ _))
  · have e : st p = 9 := es
    rw [e]
    refine (nm_e (br_f (by decide) (br_f (by decide) (br_f (by decide) (br_f (by decide) (br_f (by decide) (br_f (by decide) (br_f (by decide) (br_f (by decide) (br_f (by decide) (br_t (by decide) ⟨pv, ⟨pv, (nm_e (xa_scr HP ez hz8 (xa_sca HP ez2 hz82 m1 hro ⟨pv, (nm_e ?_)⟩)))⟩⟩)))))))))))
    have tj : ∀ t : Nat → Int32, pn_tj (upd st p 8) t p = t := fun t => pn_tj_on (by rw [pn_at]; decide) (by rw [pn_at]; decide)
    refine H _ _ _ _ _ _ _ _ _ _ _ _ _ _ _ _ _ _ _ _ _ _ _ _ _ _ _ _ _ _ ?_ (fun Q hQ => ?_)
    · rw [tj]; exact ⟨(pn_VS_u (n := 8) VS rfl (by decide) (fun j ej => by first | rfl | (rw [pn_ne _ _ ej]) | (rw [pn_ne _ _ ej, pn_ne _ _ ej])) (fun z => absurd z (by decide))), VO, (pn_VQ_a (pn_VQ_a VQ hp) hp), VN⟩
    rw [tj] at hQ
    intro rp0 ca0 sg0
    unfold wpY_rcrPlus
    refine ya_st HP ?_
    rw [e]
    refine (br_f (by decide) (br_f (by decide) (br_f (by decide) (br_f (by decide) (br_f (by decide) (br_t (by decide) (ya_tld HP (ya_scr HP VO ez hz8 (fun _ => (ya_sca HP ez2 hz82 y1 hmr (fun _ => ?_)))))))))))
    unfold wY_rcrPlus_109
    exact (ya_fin1 HP (by decide) (by decide) (hQ _ _ _ _))
theorem ev_bad (HP : pn_P P p) (V : pn_V st ti lo hi ic q no) (hM : ∀ f, f < 7 → ih f = M f) (hN : ∀ f, f < 7 → mg f = M f) (h2s : 2 ≤ st p) {R : Nat → Int32} (hro : ∀ k, k < 4 → ro k = R k) (H : pn_H post p ih mg (fun Q => ∀ rp ca sg : Nat → Int32, rp 0 = rc → rp 1 = M 1 → rp 2 = 0 → (∀ k, k < 4 → rp (3 + k) = R k) → wpY_rcrMinus Q (C, T, F, K, pn_I st rs ti ni cr hc nk ms ei us dn sa fi, pn_O lo hi wa ic se lc rm, w, q, mg, ou, rp, ca, sg) P)) : wpX_onBadRequest post (C, T, F, K, rc, st, rs, ti, ni, cr, hc, nk, ms, ei, us, dn, sa, fi, lo, hi, wa, ic, se, lc, rm, w, q, ih, vd, ro, no) P := by
  obtain ⟨VS, VO, VQ, VN⟩ := V
  have hp := pp_lt HP
  have pv := pp_v HP
  obtain ⟨s, hs9, es, ht⟩ := VS p hp
  obtain ⟨z, hz8, ez⟩ := VQ p hp
  obtain ⟨z2, hz82, ez2⟩ := (pn_VQ_a VQ hp) p hp
  have hs2 : 2 ≤ s := by
    rw [es] at h2s
    exact (nI_leI (a := 2) (by decide) (by omega)).mp h2s
  have m1 := hM 1 (by decide)
  have y1 := hN 1 (by decide)
  unfold wpX_onBadRequest wX_onBadRequest_91
  refine ⟨pv, ?_⟩
  rw [pp_n HP]
  have hcase : s = 2 ∨ s = 3 ∨ s = 4 ∨ s = 5 ∨ s = 6 ∨ s = 7 ∨ s = 8 ∨ s = 9 := by omega
  rcases hcase with rfl | rfl | rfl | rfl | rfl | rfl | rfl | rfl
  · have e : st p = 2 := es
    rw [e]
    refine (nm_e (br_f (by decide) (br_f (by decide) (br_t (by decide) (xa_sta HP VN ez hz8 m1 ?_)))))
    have tj : ∀ t : Nat → Int32, pn_tj st t p = upd t p 0 := fun t => pn_tj_off (by rw [e]; decide)
    refine H _ _ _ _ _ _ _ _ _ _ _ _ _ _ _ _ _ _ _ _ _ _ _ _ _ _ _ _ _ _ ?_ (fun Q hQ => ?_)
    · rw [tj]; exact ⟨(pn_VS_k (n := 2) VS hp es (by decide) (fun j ej => by first | rfl | (rw [pn_ne _ _ ej]) | (rw [pn_ne _ _ ej, pn_ne _ _ ej])) (fun _ => pn_at _ _ _)), VO, (pn_VQ_a VQ hp), VN⟩
    rw [tj] at hQ
    intro rp0 ca0 sg0 r0 r1 r2 hrp
    unfold wpY_rcrMinus
    refine ya_st HP ?_
    rw [e]
    refine (br_t (by decide) (ya_sta HP ez hz8 y1 (fun _ => (br_f (by decide) (br_t (by decide) (br_f (by decide) (br_f (by decide) ?_)))))))
    unfold wY_rcrMinus_91
    exact (ya_fins0 HP e (by decide) (hQ _ _ _ _))
  · have e : st p = 3 := es
    rw [e]
    refine (nm_e (br_f (by decide) (br_f (by decide) (br_f (by decide) (br_t (by decide) ⟨pv, (nm_e (xa_scr HP ez hz8 (xa_scn HP ez2 hz82 m1 hro ⟨pv, (nm_e ?_)⟩)))⟩)))))
    have tj : ∀ t : Nat → Int32, pn_tj (upd st p 6) t p = t := fun t => pn_tj_on (by rw [pn_at]; decide) (by rw [pn_at]; decide)
    refine H _ _ _ _ _ _ _ _ _ _ _ _ _ _ _ _ _ _ _ _ _ _ _ _ _ _ _ _ _ _ ?_ (fun Q hQ => ?_)
    · rw [tj]; exact ⟨(pn_VS_u (n := 6) VS rfl (by decide) (fun j ej => by first | rfl | (rw [pn_ne _ _ ej]) | (rw [pn_ne _ _ ej, pn_ne _ _ ej])) (fun z => absurd z (by decide))), VO, (pn_VQ_a (pn_VQ_a VQ hp) hp), VN⟩
    rw [tj] at hQ
    intro rp0 ca0 sg0 r0 r1 r2 hrp
    unfold wpY_rcrMinus
    refine ya_st HP ?_
    rw [e]
    refine (br_f (by decide) (br_t (by decide) (ya_ircC HP (ya_scr HP VO ez hz8 (fun _ => (ya_scn HP ez2 hz82 r0 r1 r2 hrp (fun _ => (br_t (by decide) (br_f (by decide) (br_f (by decide) ?_))))))))))
    unfold wY_rcrMinus_91
    exact (ya_fin1 HP (by decide) (by decide) (hQ _ _ _ _))
  · have e : st p = 4 := es
    rw [e]
    refine (nm_e (br_f (by decide) (br_f (by decide) (br_f (by decide) (br_f (by decide) (br_t (by decide) ?_))))))
    have tj : ∀ t : Nat → Int32, pn_tj st t p = t := fun t => pn_tj_on (by rw [e]; decide) (by rw [e]; decide)
    refine H _ _ _ _ _ _ _ _ _ _ _ _ _ _ _ _ _ _ _ _ _ _ _ _ _ _ _ _ _ _ ?_ (fun Q hQ => ?_)
    · rw [tj]; exact ⟨(pn_VS_k (n := 4) VS hp es (by decide) (fun j ej => by first | rfl | (rw [pn_ne _ _ ej]) | (rw [pn_ne _ _ ej, pn_ne _ _ ej])) (fun z => absurd z (by decide))), VO, VQ, VN⟩
    rw [tj] at hQ
    intro rp0 ca0 sg0 r0 r1 r2 hrp
    unfold wpY_rcrMinus
    refine ya_st HP ?_
    rw [e]
    refine (br_f (by decide) (br_f (by decide) (br_t (by decide) (br_f (by decide) (br_f (by decide) ?_)))))
    unfold wY_rcrMinus_91
    exact (ya_fins1 HP e (by decide) (by decide) (hQ _ _ _ _))
  · have e : st p = 5 := es
    rw [e]
    refine (nm_e (br_f (by decide) (br_f (by decide) (br_f (by decide) (br_f (by decide) (br_f (by decide) (br_t (by decide) ?_)))))))
    have tj : ∀ t : Nat → Int32, pn_tj st t p = t := fun t => pn_tj_on (by rw [e]; decide) (by rw [e]; decide)
    refine H _ _ _ _ _ _ _ _ _ _ _ _ _ _ _ _ _ _ _ _ _ _ _ _ _ _ _ _ _ _ ?_ (fun Q hQ => ?_)
    · rw [tj]; exact ⟨(pn_VS_k (n := 5) VS hp es (by decide) (fun j ej => by first | rfl | (rw [pn_ne _ _ ej]) | (rw [pn_ne _ _ ej, pn_ne _ _ ej])) (fun z => absurd z (by decide))), VO, VQ, VN⟩
    rw [tj] at hQ
    intro rp0 ca0 sg0 r0 r1 r2 hrp
    unfold wpY_rcrMinus
    refine ya_st HP ?_
    rw [e]
    refine (br_f (by decide) (br_f (by decide) (br_t (by decide) (br_f (by decide) (br_f (by decide) ?_)))))
    unfold wY_rcrMinus_91
    exact (ya_fins1 HP e (by decide) (by decide) (hQ _ _ _ _))
  · have e : st p = 6 := es
    rw [e]
    refine (nm_e (br_f (by decide) (br_f (by decide) (br_f (by decide) (br_f (by decide) (br_f (by decide) (br_f (by decide) (br_t (by decide) (xa_scn HP ez hz8 m1 hro ⟨pv, (nm_e ?_)⟩)))))))))
    have tj : ∀ t : Nat → Int32, pn_tj (upd st p 6) t p = t := fun t => pn_tj_on (by rw [pn_at]; decide) (by rw [pn_at]; decide)
    refine H _ _ _ _ _ _ _ _ _ _ _ _ _ _ _ _ _ _ _ _ _ _ _ _ _ _ _ _ _ _ ?_ (fun Q hQ => ?_)
    · rw [tj]; exact ⟨(pn_VS_u (n := 6) VS rfl (by decide) (fun j ej => by first | rfl | (rw [pn_ne _ _ ej]) | (rw [pn_ne _ _ ej, pn_ne _ _ ej])) (fun z => absurd z (by decide))), VO, (pn_VQ_a VQ hp), VN⟩
    rw [tj] at hQ
    intro rp0 ca0 sg0 r0 r1 r2 hrp
    unfold wpY_rcrMinus
    refine ya_st HP ?_
    rw [e]
    refine (br_f (by decide) (br_f (by decide) (br_f (by decide) (br_f (by decide) (ya_scn HP ez hz8 r0 r1 r2 hrp (fun _ => (br_f (by decide) (br_f (by decide) ?_))))))))
    unfold wY_rcrMinus_91
    exact (ya_fin1 HP (by decide) (by decide) (hQ _ _ _ _))
  · have e : st p = 7 := es
    rw [e]
    refine (nm_e (br_f (by decide) (br_f (by decide) (br_f (by decide) (br_f (by decide) (br_f (by decide) (br_f (by decide) (br_f (by decide) (br_t (by decide) (xa_scn HP ez hz8 m1 hro ?_))))))))))
    have tj : ∀ t : Nat → Int32, pn_tj st t p = t := fun t => pn_tj_on (by rw [e]; decide) (by rw [e]; decide)
    refine H _ _ _ _ _ _ _ _ _ _ _ _ _ _ _ _ _ _ _ _ _ _ _ _ _ _ _ _ _ _ ?_ (fun Q hQ => ?_)
    · rw [tj]; exact ⟨(pn_VS_k (n := 7) VS hp es (by decide) (fun j ej => by first | rfl | (rw [pn_ne _ _ ej]) | (rw [pn_ne _ _ ej, pn_ne _ _ ej])) (fun z => absurd z (by decide))), VO, (pn_VQ_a VQ hp), VN⟩
    rw [tj] at hQ
    intro rp0 ca0 sg0 r0 r1 r2 hrp
    unfold wpY_rcrMinus
    refine ya_st HP ?_
    rw [e]
    refine (br_f (by decide) (br_f (by decide) (br_f (by decide) (br_f (by decide) (ya_scn HP ez hz8 r0 r1 r2 hrp (fun _ => (br_f (by decide) (br_f (by decide) ?_))))))))
    unfold wY_rcrMinus_91
    exact (ya_fins1 HP e (by decide) (by decide) (hQ _ _ _ _))
  · have e : st p = 8 := es
    rw [e]
    refine (nm_e (br_f (by decide) (br_f (by decide) (br_f (by decide) (br_f (by decide) (br_f (by decide) (br_f (by decide) (br_f (by decide) (br_f (by decide) (br_t (by decide) (xa_scn HP ez hz8 m1 hro ⟨pv, (nm_e ?_)⟩)))))))))))
    have tj : ∀ t : Nat → Int32, pn_tj (upd st p 6) t p = t := fun t => pn_tj_on (by rw [pn_at]; decide) (by rw [pn_at]; decide)
    refine H _ _ _ _ _ _ _ _ _ _ _ _ _ _ _ _ _ _ _ _ _ _ _ _ _ _ _ _ _ _ ?_ (fun Q hQ => ?_)
    · rw [tj]; exact ⟨(pn_VS_u (n := 6) VS rfl (by decide) (fun j ej => by first | rfl | (rw [pn_ne _ _ ej]) | (rw [pn_ne _ _ ej, pn_ne _ _ ej])) (fun z => absurd z (by decide))), VO, (pn_VQ_a VQ hp), VN⟩
    rw [tj] at hQ
    intro rp0 ca0 sg0 r0 r1 r2 hrp
    unfold wpY_rcrMinus
    refine ya_st HP ?_
    rw [e]
    refine (br_f (by decide) (br_f (by decide) (br_f (by decide) (br_f (by decide) (ya_scn HP ez hz8 r0 r1 r2 hrp (fun _ => (br_t (by decide) (br_f (by decide) ?_))))))))
    unfold wY_rcrMinus_91
    exact (ya_fin1 HP (by decide) (by decide) (hQ _ _ _ _))
  · have e : st p = 9 := es
    rw [e]
    refine (nm_e (br_f (by decide) (br_f (by decide) (br_f (by decide) (br_f (by decide) (br_f (by decide) (br_f (by decide) (br_f (by decide) (br_f (by decide) (br_f (by decide) (br_t (by decide) ⟨pv, ⟨pv, (nm_e (xa_scr HP ez hz8 (xa_scn HP ez2 hz82 m1 hro ⟨pv, (nm_e ?_)⟩)))⟩⟩)))))))))))
    have tj : ∀ t : Nat → Int32, pn_tj (upd st p 6) t p = t := fun t => pn_tj_on (by rw [pn_at]; decide) (by rw [pn_at]; decide)
    refine H _ _ _ _ _ _ _ _ _ _ _ _ _ _ _ _ _ _ _ _ _ _ _ _ _ _ _ _ _ _ ?_ (fun Q hQ => ?_)
    · rw [tj]; exact ⟨(pn_VS_u (n := 6) VS rfl (by decide) (fun j ej => by first | rfl | (rw [pn_ne _ _ ej]) | (rw [pn_ne _ _ ej, pn_ne _ _ ej])) (fun z => absurd z (by decide))), VO, (pn_VQ_a (pn_VQ_a VQ hp) hp), VN⟩
    rw [tj] at hQ
    intro rp0 ca0 sg0 r0 r1 r2 hrp
    unfold wpY_rcrMinus
    refine ya_st HP ?_
    rw [e]
    refine (br_f (by decide) (br_f (by decide) (br_f (by decide) (br_t (by decide) (br_f (by decide) (br_t (by decide) (ya_tld HP (ya_scr HP VO ez hz8 (fun _ => (ya_scn HP ez2 hz82 r0 r1 r2 hrp (fun _ => ?_)))))))))))
    unfold wY_rcrMinus_91
    exact (ya_fin1 HP (by decide) (by decide) (hQ _ _ _ _))
theorem ev_ack (HP : pn_P P p) (V : pn_V st ti lo hi ic q no) (hM : ∀ f, f < 7 → ih f = M f) (hN : ∀ f, f < 7 → mg f = M f) (h2s : 2 ≤ st p) (H : pn_H post p ih mg (fun Q => wpY_rca Q (C, T, F, K, pn_I st rs ti ni cr hc nk ms ei us dn sa fi, pn_O lo hi wa ic se lc rm, w, q, mg, ou, rp, ca, sg) P)) : wpX_onAck post (C, T, F, K, rc, st, rs, ti, ni, cr, hc, nk, ms, ei, us, dn, sa, fi, lo, hi, wa, ic, se, lc, rm, w, q, ih, vd, ro, no) P := by
  obtain ⟨VS, VO, VQ, VN⟩ := V
  have hp := pp_lt HP
  have pv := pp_v HP
  obtain ⟨s, hs9, es, ht⟩ := VS p hp
  obtain ⟨z, hz8, ez⟩ := VQ p hp
  obtain ⟨z2, hz82, ez2⟩ := (pn_VQ_a VQ hp) p hp
  have hs2 : 2 ≤ s := by
    rw [es] at h2s
    exact (nI_leI (a := 2) (by decide) (by omega)).mp h2s
  have m1 := hM 1 (by decide)
  have y1 := hN 1 (by decide)
  unfold wpX_onAck wX_onAck_52
  refine ⟨pv, ?_⟩
  rw [pp_n HP]
  have hcase : s = 2 ∨ s = 3 ∨ s = 4 ∨ s = 5 ∨ s = 6 ∨ s = 7 ∨ s = 8 ∨ s = 9 := by omega
  rcases hcase with rfl | rfl | rfl | rfl | rfl | rfl | rfl | rfl
  · have e : st p = 2 := es
    rw [e]
    refine (nm_e (br_f (by decide) (br_f (by decide) (br_t (by decide) (xa_sta HP VN ez hz8 m1 ?_)))))
    have tj : ∀ t : Nat → Int32, pn_tj st t p = upd t p 0 := fun t => pn_tj_off (by rw [e]; decide)
    refine H _ _ _ _ _ _ _ _ _ _ _ _ _ _ _ _ _ _ _ _ _ _ _ _ _ _ _ _ _ _ ?_ (fun Q hQ => ?_)
    · rw [tj]; exact ⟨(pn_VS_k (n := 2) VS hp es (by decide) (fun j ej => by first | rfl | (rw [pn_ne _ _ ej]) | (rw [pn_ne _ _ ej, pn_ne _ _ ej])) (fun _ => pn_at _ _ _)), VO, (pn_VQ_a VQ hp), VN⟩
    rw [tj] at hQ
    unfold wpY_rca
    refine ya_st HP ?_
    rw [e]
    refine (br_t (by decide) ?_)
    unfold wY_rca_18
    refine (ya_sta HP ez hz8 y1 (fun _ => (br_f (by decide) (br_f (by decide) (br_f (by decide) (br_f (by decide) ?_))))))
    unfold wY_rca_89
    exact (ya_fins0 HP e (by decide) (hQ _ _ _ _))
  · have e : st p = 3 := es
    rw [e]
    refine (nm_e (br_f (by decide) (br_f (by decide) (br_f (by decide) (br_t (by decide) (xa_sta HP VN ez hz8 m1 ?_))))))
    have tj : ∀ t : Nat → Int32, pn_tj st t p = upd t p 0 := fun t => pn_tj_off (by rw [e]; decide)
    refine H _ _ _ _ _ _ _ _ _ _ _ _ _ _ _ _ _ _ _ _ _ _ _ _ _ _ _ _ _ _ ?_ (fun Q hQ => ?_)
    · rw [tj]; exact ⟨(pn_VS_k (n := 3) VS hp es (by decide) (fun j ej => by first | rfl | (rw [pn_ne _ _ ej]) | (rw [pn_ne _ _ ej, pn_ne _ _ ej])) (fun _ => pn_at _ _ _)), VO, (pn_VQ_a VQ hp), VN⟩
    rw [tj] at hQ
    unfold wpY_rca
    refine ya_st HP ?_
    rw [e]
    refine (br_f (by decide) (br_t (by decide) ?_))
    unfold wY_rca_18
    refine (ya_sta HP ez hz8 y1 (fun _ => (br_f (by decide) (br_f (by decide) (br_f (by decide) (br_f (by decide) ?_))))))
    unfold wY_rca_89
    exact (ya_fins0 HP e (by decide) (hQ _ _ _ _))
  · have e : st p = 4 := es
    rw [e]
    refine (nm_e (br_f (by decide) (br_f (by decide) (br_f (by decide) (br_f (by decide) (br_t (by decide) ?_))))))
    have tj : ∀ t : Nat → Int32, pn_tj st t p = t := fun t => pn_tj_on (by rw [e]; decide) (by rw [e]; decide)
    refine H _ _ _ _ _ _ _ _ _ _ _ _ _ _ _ _ _ _ _ _ _ _ _ _ _ _ _ _ _ _ ?_ (fun Q hQ => ?_)
    · rw [tj]; exact ⟨(pn_VS_k (n := 4) VS hp es (by decide) (fun j ej => by first | rfl | (rw [pn_ne _ _ ej]) | (rw [pn_ne _ _ ej, pn_ne _ _ ej])) (fun z => absurd z (by decide))), VO, VQ, VN⟩
    rw [tj] at hQ
    unfold wpY_rca
    refine ya_st HP ?_
    rw [e]
    refine (br_f (by decide) (br_f (by decide) (br_f (by decide) (br_f (by decide) (br_f (by decide) (br_f (by decide) ?_))))))
    unfold wY_rca_89
    exact (ya_fins1 HP e (by decide) (by decide) (hQ _ _ _ _))
  · have e : st p = 5 := es
    rw [e]
    refine (nm_e (br_f (by decide) (br_f (by decide) (br_f (by decide) (br_f (by decide) (br_f (by decide) (br_t (by decide) ?_)))))))
    have tj : ∀ t : Nat → Int32, pn_tj st t p = t := fun t => pn_tj_on (by rw [e]; decide) (by rw [e]; decide)
    refine H _ _ _ _ _ _ _ _ _ _ _ _ _ _ _ _ _ _ _ _ _ _ _ _ _ _ _ _ _ _ ?_ (fun Q hQ => ?_)
    · rw [tj]; exact ⟨(pn_VS_k (n := 5) VS hp es (by decide) (fun j ej => by first | rfl | (rw [pn_ne _ _ ej]) | (rw [pn_ne _ _ ej, pn_ne _ _ ej])) (fun z => absurd z (by decide))), VO, VQ, VN⟩
    rw [tj] at hQ
    unfold wpY_rca
    refine ya_st HP ?_
    rw [e]
    refine (br_f (by decide) (br_f (by decide) (br_f (by decide) (br_f (by decide) (br_f (by decide) (br_f (by decide) ?_))))))
    unfold wY_rca_89
    exact (ya_fins1 HP e (by decide) (by decide) (hQ _ _ _ _))
  · have e : st p = 6 := es
    rw [e]
    refine (nm_e (br_f (by decide) (br_f (by decide) (br_f (by decide) (br_f (by decide) (br_f (by decide) (br_f (by decide) (br_t (by decide) ⟨pv, (nm_e ⟨pv, (nm_e ?_)⟩)⟩))))))))
    have tj : ∀ t : Nat → Int32, pn_tj (upd st p 7) t p = t := fun t => pn_tj_on (by rw [pn_at]; decide) (by rw [pn_at]; decide)
    refine H _ _ _ _ _ _ _ _ _ _ _ _ _ _ _ _ _ _ _ _ _ _ _ _ _ _ _ _ _ _ ?_ (fun Q hQ => ?_)
    · rw [tj]; exact ⟨(pn_VS_u (n := 7) VS rfl (by decide) (fun j ej => by first | rfl | (rw [pn_ne _ _ ej]) | (rw [pn_ne _ _ ej, pn_ne _ _ ej])) (fun z => absurd z (by decide))), VO, VQ, VN⟩
    rw [tj] at hQ
    unfold wpY_rca
    refine ya_st HP ?_
    rw [e]
    refine (br_f (by decide) (br_f (by decide) (br_t (by decide) (ya_ircC HP (br_f (by decide) (br_f (by decide) (br_f (by decide) ?_)))))))
    unfold wY_rca_89
    exact (ya_fin1 HP (by decide) (by decide) (hQ _ _ _ _))
  · have e : st p = 7 := es
    rw [e]
    refine (nm_e (br_f (by decide) (br_f (by decide) (br_f (by decide) (br_f (by decide) (br_f (by decide) (br_f (by decide) (br_f (by decide) (br_t (by decide) (xa_scr HP ez hz8 ⟨pv, (nm_e ?_)⟩))))))))))
    have tj : ∀ t : Nat → Int32, pn_tj (upd st p 6) t p = t := fun t => pn_tj_on (by rw [pn_at]; decide) (by rw [pn_at]; decide)
    refine H _ _ _ _ _ _ _ _ _ _ _ _ _ _ _ _ _ _ _ _ _ _ _ _ _ _ _ _ _ _ ?_ (fun Q hQ => ?_)
    · rw [tj]; exact ⟨(pn_VS_u (n := 6) VS rfl (by decide) (fun j ej => by first | rfl | (rw [pn_ne _ _ ej]) | (rw [pn_ne _ _ ej, pn_ne _ _ ej])) (fun z => absurd z (by decide))), VO, (pn_VQ_a VQ hp), VN⟩
    rw [tj] at hQ
    unfold wpY_rca
    refine ya_st HP ?_
    rw [e]
    refine (br_f (by decide) (br_f (by decide) (br_f (by decide) (br_t (by decide) (ya_scr HP VO ez hz8 (fun _ => (br_f (by decide) (br_f (by decide) ?_))))))))
    unfold wY_rca_89
    exact (ya_fin1 HP (by decide) (by decide) (hQ _ _ _ _))
  · have e : st p = 8 := es
    rw [e]
    refine (nm_e (br_f (by decide) (br_f (by decide) (br_f (by decide) (br_f (by decide) (br_f (by decide) (br_f (by decide) (br_f (by decide) (br_f (by decide) (br_t (by decide) ⟨pv, (nm_e (xa_tlu HP ⟨pv, (nm_e ?_)⟩))⟩))))))))))
    have tj : ∀ t : Nat → Int32, pn_tj (upd st p 9) t p = upd t p 0 := fun t => pn_tj_off (by rw [pn_at]; decide)
    refine H _ _ _ _ _ _ _ _ _ _ _ _ _ _ _ _ _ _ _ _ _ _ _ _ _ _ _ _ _ _ ?_ (fun Q hQ => ?_)
    · rw [tj]; exact ⟨(pn_VS_u (n := 9) VS rfl (by decide) (fun j ej => by first | rfl | (rw [pn_ne _ _ ej]) | (rw [pn_ne _ _ ej, pn_ne _ _ ej])) (fun _ => pn_at _ _ _)), VO, VQ, VN⟩
    rw [tj] at hQ
    unfold wpY_rca
    refine ya_st HP ?_
    rw [e]
    refine (br_f (by decide) (br_f (by decide) (br_f (by decide) (br_f (by decide) (br_t (by decide) (ya_ircC HP (ya_tlu HP (br_f (by decide) ?_))))))))
    unfold wY_rca_89
    exact (ya_fin0 HP (by decide) (hQ _ _ _ _))
  · have e : st p = 9 := es
    rw [e]
    refine (nm_e (br_f (by decide) (br_f (by decide) (br_f (by decide) (br_f (by decide) (br_f (by decide) (br_f (by decide) (br_f (by decide) (br_f (by decide) (br_f (by decide) (br_t (by decide) ⟨pv, ⟨pv, (nm_e (xa_scr HP ez hz8 ⟨pv, (nm_e ?_)⟩))⟩⟩)))))))))))
    have tj : ∀ t : Nat → Int32, pn_tj (upd st p 6) t p = t := fun t => pn_tj_on (by rw [pn_at]; decide) (by rw [pn_at]; decide)
    refine H _ _ _ _ _ _ _ _ _ _ _ _ _ _ _ _ _ _ _ _ _ _ _ _ _ _ _ _ _ _ ?_ (fun Q hQ => ?_)
    · rw [tj]; exact ⟨(pn_VS_u (n := 6) VS rfl (by decide) (fun j ej => by first | rfl | (rw [pn_ne _ _ ej]) | (rw [pn_ne _ _ ej, pn_ne _ _ ej])) (fun z => absurd z (by decide))), VO, (pn_VQ_a VQ hp), VN⟩
    rw [tj] at hQ
    unfold wpY_rca
    refine ya_st HP ?_
    rw [e]
    refine (br_f (by decide) (br_f (by decide) (br_f (by decide) (br_f (by decide) (br_f (by decide) (br_t (by decide) (ya_tld HP (ya_scr HP VO ez hz8 (fun _ => ?_)))))))))
    unfold wY_rca_89
    exact (ya_fin1 HP (by decide) (by decide) (hQ _ _ _ _))
theorem ev_ref (HP : pn_P P p) (V : pn_V st ti lo hi ic q no) (hM : ∀ f, f < 7 → ih f = M f) (hN : ∀ f, f < 7 → mg f = M f) (h2s : 2 ≤ st p) (hc4 : M 0 = 3 ∨ M 0 = 4) (H : pn_H post p ih mg (fun Q => wpY_rcn Q (C, T, F, K, pn_I st rs ti ni cr hc nk ms ei us dn sa fi, pn_O lo hi wa ic se lc rm, w, q, mg, ou, rp, ca, sg) P)) : wpX_onRefusal post (C, T, F, K, rc, st, rs, ti, ni, cr, hc, nk, ms, ei, us, dn, sa, fi, lo, hi, wa, ic, se, lc, rm, w, q, ih, vd, ro, no) P := by
  obtain ⟨VS, VO, VQ, VN⟩ := V
  have hp := pp_lt HP
  have pv := pp_v HP
  obtain ⟨s, hs9, es, ht⟩ := VS p hp
  obtain ⟨z, hz8, ez⟩ := VQ p hp
  obtain ⟨z2, hz82, ez2⟩ := (pn_VQ_a VQ hp) p hp
  have hs2 : 2 ≤ s := by
    rw [es] at h2s
    exact (nI_leI (a := 2) (by decide) (by omega)).mp h2s
  have m1 := hM 1 (by decide)
  have y1 := hN 1 (by decide)
  unfold wpX_onRefusal wX_onRefusal_52 wX_onRefusal_60
  refine ⟨pv, ?_⟩
  rw [pp_n HP]
  have hcase : s = 2 ∨ s = 3 ∨ s = 4 ∨ s = 5 ∨ s = 6 ∨ s = 7 ∨ s = 8 ∨ s = 9 := by omega
  rcases hcase with rfl | rfl | rfl | rfl | rfl | rfl | rfl | rfl
  · have e : st p = 2 := es
    rw [e]
    refine (nm_e (br_f (by decide) (br_f (by decide) (br_t (by decide) (xa_sta HP VN ez hz8 m1 ?_)))))
    have tj : ∀ t : Nat → Int32, pn_tj st t p = upd t p 0 := fun t => pn_tj_off (by rw [e]; decide)
    refine H _ _ _ _ _ _ _ _ _ _ _ _ _ _ _ _ _ _ _ _ _ _ _ _ _ _ _ _ _ _ ?_ (fun Q hQ => ?_)
    · rw [tj]; exact ⟨(pn_VS_k (n := 2) VS hp es (by decide) (fun j ej => by first | rfl | (rw [pn_ne _ _ ej]) | (rw [pn_ne _ _ ej, pn_ne _ _ ej])) (fun _ => pn_at _ _ _)), VO, (pn_VQ_a VQ hp), VN⟩
    rw [tj] at hQ
    unfold wpY_rcn
    refine ya_st HP ?_
    rw [e]
    refine (br_t (by decide) ?_)
    unfold wY_rcn_18
    refine (ya_sta HP ez hz8 y1 (fun _ => (br_f (by decide) (br_f (by decide) (br_f (by decide) (br_f (by decide) ?_))))))
    unfold wY_rcn_93
    exact (ya_fins0 HP e (by decide) (hQ _ _ _ _))
  · have e : st p = 3 := es
    rw [e]
    refine (nm_e (br_f (by decide) (br_f (by decide) (br_f (by decide) (br_t (by decide) (xa_sta HP VN ez hz8 m1 ?_))))))
    have tj : ∀ t : Nat → Int32, pn_tj st t p = upd t p 0 := fun t => pn_tj_off (by rw [e]; decide)
    refine H _ _ _ _ _ _ _ _ _ _ _ _ _ _ _ _ _ _ _ _ _ _ _ _ _ _ _ _ _ _ ?_ (fun Q hQ => ?_)
    · rw [tj]; exact ⟨(pn_VS_k (n := 3) VS hp es (by decide) (fun j ej => by first | rfl | (rw [pn_ne _ _ ej]) | (rw [pn_ne _ _ ej, pn_ne _ _ ej])) (fun _ => pn_at _ _ _)), VO, (pn_VQ_a VQ hp), VN⟩
    rw [tj] at hQ
    unfold wpY_rcn
    refine ya_st HP ?_
    rw [e]
    refine (br_f (by decide) (br_t (by decide) ?_))
    unfold wY_rcn_18
    refine (ya_sta HP ez hz8 y1 (fun _ => (br_f (by decide) (br_f (by decide) (br_f (by decide) (br_f (by decide) ?_))))))
    unfold wY_rcn_93
    exact (ya_fins0 HP e (by decide) (hQ _ _ _ _))
  · have e : st p = 4 := es
    rw [e]
    refine (nm_e (br_f (by decide) (br_f (by decide) (br_f (by decide) (br_f (by decide) (br_t (by decide) ?_))))))
    have tj : ∀ t : Nat → Int32, pn_tj st t p = t := fun t => pn_tj_on (by rw [e]; decide) (by rw [e]; decide)
    refine H _ _ _ _ _ _ _ _ _ _ _ _ _ _ _ _ _ _ _ _ _ _ _ _ _ _ _ _ _ _ ?_ (fun Q hQ => ?_)
    · rw [tj]; exact ⟨(pn_VS_k (n := 4) VS hp es (by decide) (fun j ej => by first | rfl | (rw [pn_ne _ _ ej]) | (rw [pn_ne _ _ ej, pn_ne _ _ ej])) (fun z => absurd z (by decide))), VO, VQ, VN⟩
    rw [tj] at hQ
    unfold wpY_rcn
    refine ya_st HP ?_
    rw [e]
    refine (br_f (by decide) (br_f (by decide) (br_f (by decide) (br_f (by decide) (br_f (by decide) (br_f (by decide) ?_))))))
    unfold wY_rcn_93
    exact (ya_fins1 HP e (by decide) (by decide) (hQ _ _ _ _))
  · have e : st p = 5 := es
    rw [e]
    refine (nm_e (br_f (by decide) (br_f (by decide) (br_f (by decide) (br_f (by decide) (br_f (by decide) (br_t (by decide) ?_)))))))
    have tj : ∀ t : Nat → Int32, pn_tj st t p = t := fun t => pn_tj_on (by rw [e]; decide) (by rw [e]; decide)
    refine H _ _ _ _ _ _ _ _ _ _ _ _ _ _ _ _ _ _ _ _ _ _ _ _ _ _ _ _ _ _ ?_ (fun Q hQ => ?_)
    · rw [tj]; exact ⟨(pn_VS_k (n := 5) VS hp es (by decide) (fun j ej => by first | rfl | (rw [pn_ne _ _ ej]) | (rw [pn_ne _ _ ej, pn_ne _ _ ej])) (fun z => absurd z (by decide))), VO, VQ, VN⟩
    rw [tj] at hQ
    unfold wpY_rcn
    refine ya_st HP ?_
    rw [e]
    refine (br_f (by decide) (br_f (by decide) (br_f (by decide) (br_f (by decide) (br_f (by decide) (br_f (by decide) ?_))))))
    unfold wY_rcn_93
    exact (ya_fins1 HP e (by decide) (by decide) (hQ _ _ _ _))
  · have e : st p = 6 := es
    rw [e]
    refine (nm_e (br_f (by decide) (br_f (by decide) (br_f (by decide) (br_f (by decide) (br_f (by decide) (br_f (by decide) (br_t (by decide) (xa_adopt HP hM ⟨pv, (nm_e (xa_scr HP ez hz8 ?_))⟩)))))))))
    have tj : ∀ t : Nat → Int32, pn_tj st t p = t := fun t => pn_tj_on (by rw [e]; decide) (by rw [e]; decide)
    refine H _ _ _ _ _ _ _ _ _ _ _ _ _ _ _ _ _ _ _ _ _ _ _ _ _ _ _ _ _ _ ?_ (fun Q hQ => ?_)
    · rw [tj]; exact ⟨(pn_VS_k (n := 6) VS hp es (by decide) (fun j ej => by first | rfl | (rw [pn_ne _ _ ej]) | (rw [pn_ne _ _ ej, pn_ne _ _ ej])) (fun z => absurd z (by decide))), (pn_VO_aI VO hp), (pn_VQ_a VQ hp), VN⟩
    rw [tj] at hQ
    unfold wpY_rcn
    refine ya_st HP ?_
    rw [e]
    refine (br_f (by decide) (br_f (by decide) (br_t (by decide) ?_)))
    unfold wY_rcn_35
    refine (ya_adopt HP hN hc4 (ya_ircC HP (ya_scr HP (pn_VO_aI VO hp) ez hz8 (fun _ => (br_f (by decide) (br_f (by decide) ?_))))))
    unfold wY_rcn_93
    exact (ya_fins1 HP e (by decide) (by decide) (hQ _ _ _ _))
  · have e : st p = 7 := es
    rw [e]
    refine (nm_e (br_f (by decide) (br_f (by decide) (br_f (by decide) (br_f (by decide) (br_f (by decide) (br_f (by decide) (br_f (by decide) (br_t (by decide) (xa_adopt HP hM (xa_scr HP ez hz8 ⟨pv, (nm_e ?_)⟩)))))))))))
    have tj : ∀ t : Nat → Int32, pn_tj (upd st p 6) t p = t := fun t => pn_tj_on (by rw [pn_at]; decide) (by rw [pn_at]; decide)
    refine H _ _ _ _ _ _ _ _ _ _ _ _ _ _ _ _ _ _ _ _ _ _ _ _ _ _ _ _ _ _ ?_ (fun Q hQ => ?_)
    · rw [tj]; exact ⟨(pn_VS_u (n := 6) VS rfl (by decide) (fun j ej => by first | rfl | (rw [pn_ne _ _ ej]) | (rw [pn_ne _ _ ej, pn_ne _ _ ej])) (fun z => absurd z (by decide))), (pn_VO_aI VO hp), (pn_VQ_a VQ hp), VN⟩
    rw [tj] at hQ
    unfold wpY_rcn
    refine ya_st HP ?_
    rw [e]
    refine (br_f (by decide) (br_f (by decide) (br_f (by decide) (br_f (by decide) (br_t (by decide) (ya_adopt HP hN hc4 (ya_scr HP (pn_VO_aI VO hp) ez hz8 (fun _ => (br_f (by decide) ?_)))))))))
    unfold wY_rcn_93
    exact (ya_fin1 HP (by decide) (by decide) (hQ _ _ _ _))
  · have e : st p = 8 := es
    rw [e]
    refine (nm_e (br_f (by decide) (br_f (by decide) (br_f (by decide) (br_f (by decide) (br_f (by decide) (br_f (by decide) (br_f (by decide) (br_f (by decide) (br_t (by decide) (xa_adopt HP hM ⟨pv, (nm_e (xa_scr HP ez hz8 ?_))⟩)))))))))))
    have tj : ∀ t : Nat → Int32, pn_tj st t p = t := fun t => pn_tj_on (by rw [e]; decide) (by rw [e]; decide)
    refine H _ _ _ _ _ _ _ _ _ _ _ _ _ _ _ _ _ _ _ _ _ _ _ _ _ _ _ _ _ _ ?_ (fun Q hQ => ?_)
    · rw [tj]; exact ⟨(pn_VS_k (n := 8) VS hp es (by decide) (fun j ej => by first | rfl | (rw [pn_ne _ _ ej]) | (rw [pn_ne _ _ ej, pn_ne _ _ ej])) (fun z => absurd z (by decide))), (pn_VO_aI VO hp), (pn_VQ_a VQ hp), VN⟩
    rw [tj] at hQ
    unfold wpY_rcn
    refine ya_st HP ?_
    rw [e]
    refine (br_f (by decide) (br_f (by decide) (br_f (by decide) (br_t (by decide) ?_))))
    unfold wY_rcn_35
    refine (ya_adopt HP hN hc4 (ya_ircC HP (ya_scr HP (pn_VO_aI VO hp) ez hz8 (fun _ => (br_f (by decide) (br_f (by decide) ?_))))))
    unfold wY_rcn_93
    exact (ya_fins1 HP e (by decide) (by decide) (hQ _ _ _ _))
  · have e : st p = 9 := es
    rw [e]
    refine (nm_e (br_f (by decide) (br_f (by decide) (br_f (by decide) (br_f (by decide) (br_f (by decide) (br_f (by decide) (br_f (by decide) (br_f (by decide) (br_f (by decide) (br_t (by decide) (xa_adopt HP hM ⟨pv, ⟨pv, (nm_e (xa_scr HP ez hz8 ⟨pv, (nm_e ?_)⟩))⟩⟩))))))))))))
    have tj : ∀ t : Nat → Int32, pn_tj (upd st p 6) t p = t := fun t => pn_tj_on (by rw [pn_at]; decide) (by rw [pn_at]; decide)
    refine H _ _ _ _ _ _ _ _ _ _ _ _ _ _ _ _ _ _ _ _ _ _ _ _ _ _ _ _ _ _ ?_ (fun Q hQ => ?_)
    · rw [tj]; exact ⟨(pn_VS_u (n := 6) VS rfl (by decide) (fun j ej => by first | rfl | (rw [pn_ne _ _ ej]) | (rw [pn_ne _ _ ej, pn_ne _ _ ej])) (fun z => absurd z (by decide))), (pn_VO_aI VO hp), (pn_VQ_a VQ hp), VN⟩
    rw [tj] at hQ
    unfold wpY_rcn
    refine ya_st HP ?_
    rw [e]
    refine (br_f (by decide) (br_f (by decide) (br_f (by decide) (br_f (by decide) (br_f (by decide) (br_t (by decide) (ya_adopt HP hN hc4 (ya_tld HP (ya_scr HP (pn_VO_aI VO hp) ez hz8 (fun _ => ?_))))))))))
    unfold wY_rcn_93
    exact (ya_fin1 HP (by decide) (by decide) (hQ _ _ _ _))
theorem ev_rtr (HP : pn_P P p) (V : pn_V st ti lo hi ic q no) (hM : ∀ f, f < 7 → ih f = M f) (hN : ∀ f, f < 7 → mg f = M f) (h2s : 2 ≤ st p) (H : pn_H post p ih mg (fun Q => wpY_rtr Q (C, T, F, K, pn_I st rs ti ni cr hc nk ms ei us dn sa fi, pn_O lo hi wa ic se lc rm, w, q, mg, ou, rp, ca, sg) P)) : wpX_onTerminateRequest post (C, T, F, K, rc, st, rs, ti, ni, cr, hc, nk, ms, ei, us, dn, sa, fi, lo, hi, wa, ic, se, lc, rm, w, q, ih, vd, ro, no) P := by
  obtain ⟨VS, VO, VQ, VN⟩ := V
  have hp := pp_lt HP
  have pv := pp_v HP
  obtain ⟨s, hs9, es, ht⟩ := VS p hp
  obtain ⟨z, hz8, ez⟩ := VQ p hp
  obtain ⟨z2, hz82, ez2⟩ := (pn_VQ_a VQ hp) p hp
  have hs2 : 2 ≤ s := by
    rw [es] at h2s
    exact (nI_leI (a := 2) (by decide) (by omega)).mp h2s
  have m1 := hM 1 (by decide)
  have y1 := hN 1 (by decide)
  unfold wpX_onTerminateRequest wX_onTerminateRequest_70 wX_onTerminateRequest_78
  refine ⟨pv, ?_⟩
  rw [pp_n HP]
  have hcase : s = 2 ∨ s = 3 ∨ s = 4 ∨ s = 5 ∨ s = 6 ∨ s = 7 ∨ s = 8 ∨ s = 9 := by omega
  rcases hcase with rfl | rfl | rfl | rfl | rfl | rfl | rfl | rfl
  · have e : st p = 2 := es
    rw [e]
    refine (br_f (by decide) ⟨pv, (br_f (by decide) ⟨pv, (br_f (by decide) (xa_sta HP VN ez hz8 m1 ?_))⟩)⟩)
    have tj : ∀ t : Nat → Int32, pn_tj st t p = upd t p 0 := fun t => pn_tj_off (by rw [e]; decide)
    refine H _ _ _ _ _ _ _ _ _ _ _ _ _ _ _ _ _ _ _ _ _ _ _ _ _ _ _ _ _ _ ?_ (fun Q hQ => ?_)
    · rw [tj]; exact ⟨(pn_VS_k (n := 2) VS hp es (by decide) (fun j ej => by first | rfl | (rw [pn_ne _ _ ej]) | (rw [pn_ne _ _ ej, pn_ne _ _ ej])) (fun _ => pn_at _ _ _)), VO, (pn_VQ_a VQ hp), VN⟩
    rw [tj] at hQ
    unfold wpY_rtr
    refine ya_st HP ?_
    rw [e]
    refine (br_f (by decide) (br_f (by decide) (ya_sta HP ez hz8 y1 (fun _ => (br_f (by decide) (br_f (by decide) (br_f (by decide) ?_)))))))
    unfold wY_rtr_62
    exact (ya_fins0 HP e (by decide) (hQ _ _ _ _))
  · have e : st p = 3 := es
    rw [e]
    refine (br_f (by decide) ⟨pv, (br_f (by decide) ⟨pv, (br_f (by decide) (xa_sta HP VN ez hz8 m1 ?_))⟩)⟩)
    have tj : ∀ t : Nat → Int32, pn_tj st t p = upd t p 0 := fun t => pn_tj_off (by rw [e]; decide)
    refine H _ _ _ _ _ _ _ _ _ _ _ _ _ _ _ _ _ _ _ _ _ _ _ _ _ _ _ _ _ _ ?_ (fun Q hQ => ?_)
    · rw [tj]; exact ⟨(pn_VS_k (n := 3) VS hp es (by decide) (fun j ej => by first | rfl | (rw [pn_ne _ _ ej]) | (rw [pn_ne _ _ ej, pn_ne _ _ ej])) (fun _ => pn_at _ _ _)), VO, (pn_VQ_a VQ hp), VN⟩
    rw [tj] at hQ
    unfold wpY_rtr
    refine ya_st HP ?_
    rw [e]
    refine (br_f (by decide) (br_f (by decide) (ya_sta HP ez hz8 y1 (fun _ => (br_f (by decide) (br_f (by decide) (br_f (by decide) ?_)))))))
    unfold wY_rtr_62
    exact (ya_fins0 HP e (by decide) (hQ _ _ _ _))
  · have e : st p = 4 := es
    rw [e]
    refine (br_f (by decide) ⟨pv, (br_f (by decide) ⟨pv, (br_f (by decide) (xa_sta HP VN ez hz8 m1 ?_))⟩)⟩)
    have tj : ∀ t : Nat → Int32, pn_tj st t p = t := fun t => pn_tj_on (by rw [e]; decide) (by rw [e]; decide)
    refine H _ _ _ _ _ _ _ _ _ _ _ _ _ _ _ _ _ _ _ _ _ _ _ _ _ _ _ _ _ _ ?_ (fun Q hQ => ?_)
    · rw [tj]; exact ⟨(pn_VS_k (n := 4) VS hp es (by decide) (fun j ej => by first | rfl | (rw [pn_ne _ _ ej]) | (rw [pn_ne _ _ ej, pn_ne _ _ ej])) (fun z => absurd z (by decide))), VO, (pn_VQ_a VQ hp), VN⟩
    rw [tj] at hQ
    unfold wpY_rtr
    refine ya_st HP ?_
    rw [e]
    refine (br_f (by decide) (br_f (by decide) (ya_sta HP ez hz8 y1 (fun _ => (br_f (by decide) (br_f (by decide) (br_f (by decide) ?_)))))))
    unfold wY_rtr_62
    exact (ya_fins1 HP e (by decide) (by decide) (hQ _ _ _ _))
  · have e : st p = 5 := es
    rw [e]
    refine (br_f (by decide) ⟨pv, (br_f (by decide) ⟨pv, (br_f (by decide) (xa_sta HP VN ez hz8 m1 ?_))⟩)⟩)
    have tj : ∀ t : Nat → Int32, pn_tj st t p = t := fun t => pn_tj_on (by rw [e]; decide) (by rw [e]; decide)
    refine H _ _ _ _ _ _ _ _ _ _ _ _ _ _ _ _ _ _ _ _ _ _ _ _ _ _ _ _ _ _ ?_ (fun Q hQ => ?_)
    · rw [tj]; exact ⟨(pn_VS_k (n := 5) VS hp es (by decide) (fun j ej => by first | rfl | (rw [pn_ne _ _ ej]) | (rw [pn_ne _ _ ej, pn_ne _ _ ej])) (fun z => absurd z (by decide))), VO, (pn_VQ_a VQ hp), VN⟩
    rw [tj] at hQ
    unfold wpY_rtr
    refine ya_st HP ?_
    rw [e]
    refine (br_f (by decide) (br_f (by decide) (ya_sta HP ez hz8 y1 (fun _ => (br_f (by decide) (br_f (by decide) (br_f (by decide) ?_)))))))
    unfold wY_rtr_62
    exact (ya_fins1 HP e (by decide) (by decide) (hQ _ _ _ _))
  · have e : st p = 6 := es
    rw [e]
    refine (br_f (by decide) ⟨pv, (br_f (by decide) ⟨pv, (br_f (by decide) (xa_sta HP VN ez hz8 m1 ?_))⟩)⟩)
    have tj : ∀ t : Nat → Int32, pn_tj st t p = t := fun t => pn_tj_on (by rw [e]; decide) (by rw [e]; decide)
    refine H _ _ _ _ _ _ _ _ _ _ _ _ _ _ _ _ _ _ _ _ _ _ _ _ _ _ _ _ _ _ ?_ (fun Q hQ => ?_)
    · rw [tj]; exact ⟨(pn_VS_k (n := 6) VS hp es (by decide) (fun j ej => by first | rfl | (rw [pn_ne _ _ ej]) | (rw [pn_ne _ _ ej, pn_ne _ _ ej])) (fun z => absurd z (by decide))), VO, (pn_VQ_a VQ hp), VN⟩
    rw [tj] at hQ
    unfold wpY_rtr
    refine ya_st HP ?_
    rw [e]
    refine (br_f (by decide) (br_f (by decide) (ya_sta HP ez hz8 y1 (fun _ => (br_f (by decide) (br_f (by decide) (br_f (by decide) ?_)))))))
    unfold wY_rtr_62
    exact (ya_fins1 HP e (by decide) (by decide) (hQ _ _ _ _))
  · have e : st p = 7 := es
    rw [e]
    refine (br_f (by decide) ⟨pv, (br_t (by decide) ⟨pv, (nm_e (xa_sta HP VN ez hz8 m1 ?_))⟩)⟩)
    have tj : ∀ t : Nat → Int32, pn_tj (upd st p 6) t p = t := fun t => pn_tj_on (by rw [pn_at]; decide) (by rw [pn_at]; decide)
    refine H _ _ _ _ _ _ _ _ _ _ _ _ _ _ _ _ _ _ _ _ _ _ _ _ _ _ _ _ _ _ ?_ (fun Q hQ => ?_)
    · rw [tj]; exact ⟨(pn_VS_u (n := 6) VS rfl (by decide) (fun j ej => by first | rfl | (rw [pn_ne _ _ ej]) | (rw [pn_ne _ _ ej, pn_ne _ _ ej])) (fun z => absurd z (by decide))), VO, (pn_VQ_a VQ hp), VN⟩
    rw [tj] at hQ
    unfold wpY_rtr
    refine ya_st HP ?_
    rw [e]
    refine (br_f (by decide) (br_f (by decide) (ya_sta HP ez hz8 y1 (fun _ => (br_t (by decide) ?_)))))
    unfold wY_rtr_36
    refine (br_f (by decide) ?_)
    unfold wY_rtr_62
    exact (ya_fin1 HP (by decide) (by decide) (hQ _ _ _ _))
  · have e : st p = 8 := es
    rw [e]
    refine (br_f (by decide) ⟨pv, (br_f (by decide) ⟨pv, (br_t (by decide) ⟨pv, (nm_e (xa_sta HP VN ez hz8 m1 ?_))⟩)⟩)⟩)
    have tj : ∀ t : Nat → Int32, pn_tj (upd st p 6) t p = t := fun t => pn_tj_on (by rw [pn_at]; decide) (by rw [pn_at]; decide)
    refine H _ _ _ _ _ _ _ _ _ _ _ _ _ _ _ _ _ _ _ _ _ _ _ _ _ _ _ _ _ _ ?_ (fun Q hQ => ?_)
    · rw [tj]; exact ⟨(pn_VS_u (n := 6) VS rfl (by decide) (fun j ej => by first | rfl | (rw [pn_ne _ _ ej]) | (rw [pn_ne _ _ ej, pn_ne _ _ ej])) (fun z => absurd z (by decide))), VO, (pn_VQ_a VQ hp), VN⟩
    rw [tj] at hQ
    unfold wpY_rtr
    refine ya_st HP ?_
    rw [e]
    refine (br_f (by decide) (br_f (by decide) (ya_sta HP ez hz8 y1 (fun _ => (br_f (by decide) (br_t (by decide) ?_))))))
    unfold wY_rtr_36
    refine (br_f (by decide) ?_)
    unfold wY_rtr_62
    exact (ya_fin1 HP (by decide) (by decide) (hQ _ _ _ _))
  · have e : st p = 9 := es
    rw [e]
    refine (br_t (by decide) ⟨pv, ⟨pv, (nm_e ⟨pv, (nm_e ⟨pv, (nm_e ⟨pv, (nm_e (xa_sta HP VN ez hz8 m1 ?_))⟩)⟩)⟩)⟩⟩)
    have tj : ∀ t : Nat → Int32, pn_tj (upd st p 5) t p = t := fun t => pn_tj_on (by rw [pn_at]; decide) (by rw [pn_at]; decide)
    refine H _ _ _ _ _ _ _ _ _ _ _ _ _ _ _ _ _ _ _ _ _ _ _ _ _ _ _ _ _ _ ?_ (fun Q hQ => ?_)
    · rw [tj]; exact ⟨(pn_VS_u (n := 5) VS rfl (by decide) (fun j ej => by first | rfl | (rw [pn_ne _ _ ej]) | (rw [pn_ne _ _ ej, pn_ne _ _ ej])) (fun z => absurd z (by decide))), VO, (pn_VQ_a VQ hp), VN⟩
    rw [tj] at hQ
    unfold wpY_rtr
    refine ya_st HP ?_
    rw [e]
    refine (br_f (by decide) (br_t (by decide) (br_f (by decide) (br_f (by decide) (br_t (by decide) (ya_tld HP (ya_zrc HP (ya_sta HP ez hz8 y1 (fun _ => ?_)))))))))
    unfold wY_rtr_62
    exact (ya_fin1 HP (by decide) (by decide) (hQ _ _ _ _))
theorem ev_rta (HP : pn_P P p) (V : pn_V st ti lo hi ic q no) (hM : ∀ f, f < 7 → ih f = M f) (hN : ∀ f, f < 7 → mg f = M f) (h2s : 2 ≤ st p) (H : pn_H post p ih mg (fun Q => wpY_rta Q (C, T, F, K, pn_I st rs ti ni cr hc nk ms ei us dn sa fi, pn_O lo hi wa ic se lc rm, w, q, mg, ou, rp, ca, sg) P)) : wpX_onTerminateAck post (C, T, F, K, rc, st, rs, ti, ni, cr, hc, nk, ms, ei, us, dn, sa, fi, lo, hi, wa, ic, se, lc, rm, w, q, ih, vd, ro, no) P := by
  obtain ⟨VS, VO, VQ, VN⟩ := V
  have hp := pp_lt HP
  have pv := pp_v HP
  obtain ⟨s, hs9, es, ht⟩ := VS p hp
  obtain ⟨z, hz8, ez⟩ := VQ p hp
  obtain ⟨z2, hz82, ez2⟩ := (pn_VQ_a VQ hp) p hp
  have hs2 : 2 ≤ s := by
    rw [es] at h2s
    exact (nI_leI (a := 2) (by decide) (by omega)).mp h2s
  have m1 := hM 1 (by decide)
  have y1 := hN 1 (by decide)
  unfold wpX_onTerminateAck wX_onTerminateAck_44
  refine ⟨pv, ?_⟩
  rw [pp_n HP]
  have hcase : s = 2 ∨ s = 3 ∨ s = 4 ∨ s = 5 ∨ s = 6 ∨ s = 7 ∨ s = 8 ∨ s = 9 := by omega
  rcases hcase with rfl | rfl | rfl | rfl | rfl | rfl | rfl | rfl
  · have e : st p = 2 := es
    rw [e]
    refine (nm_e (br_t (by decide) ?_))
    have tj : ∀ t : Nat → Int32, pn_tj st t p = upd t p 0 := fun t => pn_tj_off (by rw [e]; decide)
    refine H _ _ _ _ _ _ _ _ _ _ _ _ _ _ _ _ _ _ _ _ _ _ _ _ _ _ _ _ _ _ ?_ (fun Q hQ => ?_)
    · rw [tj]; exact ⟨(pn_VS_k (n := 2) VS hp es (by decide) (fun j ej => by first | rfl | (rw [pn_ne _ _ ej]) | (rw [pn_ne _ _ ej, pn_ne _ _ ej])) (fun _ => pn_at _ _ _)), VO, VQ, VN⟩
    rw [tj] at hQ
    unfold wpY_rta
    refine ya_st HP ?_
    rw [e]
    refine (br_f (by decide) (br_f (by decide) (br_f (by decide) (br_f (by decide) ?_))))
    unfold wY_rta_60
    exact (ya_fins0 HP e (by decide) (hQ _ _ _ _))
  · have e : st p = 3 := es
    rw [e]
    refine (nm_e (br_t (by decide) ?_))
    have tj : ∀ t : Nat → Int32, pn_tj st t p = upd t p 0 := fun t => pn_tj_off (by rw [e]; decide)
    refine H _ _ _ _ _ _ _ _ _ _ _ _ _ _ _ _ _ _ _ _ _ _ _ _ _ _ _ _ _ _ ?_ (fun Q hQ => ?_)
    · rw [tj]; exact ⟨(pn_VS_k (n := 3) VS hp es (by decide) (fun j ej => by first | rfl | (rw [pn_ne _ _ ej]) | (rw [pn_ne _ _ ej, pn_ne _ _ ej])) (fun _ => pn_at _ _ _)), VO, VQ, VN⟩
    rw [tj] at hQ
    unfold wpY_rta
    refine ya_st HP ?_
    rw [e]
    refine (br_f (by decide) (br_f (by decide) (br_f (by decide) (br_f (by decide) ?_))))
    unfold wY_rta_60
    exact (ya_fins0 HP e (by decide) (hQ _ _ _ _))
  · have e : st p = 4 := es
    rw [e]
    refine (nm_e (br_f (by decide) (br_f (by decide) (br_t (by decide) (xa_fin4 HP e ?_)))))
    have tj : ∀ t : Nat → Int32, pn_tj (upd st p 2) t p = upd t p 0 := fun t => pn_tj_off (by rw [pn_at]; decide)
    refine H _ _ _ _ _ _ _ _ _ _ _ _ _ _ _ _ _ _ _ _ _ _ _ _ _ _ _ _ _ _ ?_ (fun Q hQ => ?_)
    · rw [tj]; exact ⟨(pn_VS_u (n := 2) VS rfl (by decide) (fun j ej => by first | rfl | (rw [pn_ne _ _ ej]) | (rw [pn_ne _ _ ej, pn_ne _ _ ej])) (fun _ => pn_at _ _ _)), VO, VQ, VN⟩
    rw [tj] at hQ
    unfold wpY_rta
    refine ya_st HP ?_
    rw [e]
    refine (br_t (by decide) (ya_tlf HP (br_f (by decide) (br_f (by decide) (br_f (by decide) ?_)))))
    unfold wY_rta_60
    exact (ya_fin0 HP (by decide) (hQ _ _ _ _))
  · have e : st p = 5 := es
    rw [e]
    refine (nm_e (br_f (by decide) (br_f (by decide) (br_f (by decide) (br_t (by decide) (xa_fingt HP (by rw [e]; decide) (by rw [e]; decide) ?_))))))
    have tj : ∀ t : Nat → Int32, pn_tj (upd st p 3) t p = upd t p 0 := fun t => pn_tj_off (by rw [pn_at]; decide)
    refine H _ _ _ _ _ _ _ _ _ _ _ _ _ _ _ _ _ _ _ _ _ _ _ _ _ _ _ _ _ _ ?_ (fun Q hQ => ?_)
    · rw [tj]; exact ⟨(pn_VS_u (n := 3) VS rfl (by decide) (fun j ej => by first | rfl | (rw [pn_ne _ _ ej]) | (rw [pn_ne _ _ ej, pn_ne _ _ ej])) (fun _ => pn_at _ _ _)), VO, VQ, VN⟩
    rw [tj] at hQ
    unfold wpY_rta
    refine ya_st HP ?_
    rw [e]
    refine (br_f (by decide) (br_t (by decide) (ya_tlf HP (br_f (by decide) (br_f (by decide) ?_)))))
    unfold wY_rta_60
    exact (ya_fin0 HP (by decide) (hQ _ _ _ _))
  · have e : st p = 6 := es
    rw [e]
    refine (nm_e (br_f (by decide) (br_f (by decide) (br_f (by decide) (br_f (by decide) (br_t (by decide) ?_))))))
    have tj : ∀ t : Nat → Int32, pn_tj st t p = t := fun t => pn_tj_on (by rw [e]; decide) (by rw [e]; decide)
    refine H _ _ _ _ _ _ _ _ _ _ _ _ _ _ _ _ _ _ _ _ _ _ _ _ _ _ _ _ _ _ ?_ (fun Q hQ => ?_)
    · rw [tj]; exact ⟨(pn_VS_k (n := 6) VS hp es (by decide) (fun j ej => by first | rfl | (rw [pn_ne _ _ ej]) | (rw [pn_ne _ _ ej, pn_ne _ _ ej])) (fun z => absurd z (by decide))), VO, VQ, VN⟩
    rw [tj] at hQ
    unfold wpY_rta
    refine ya_st HP ?_
    rw [e]
    refine (br_f (by decide) (br_f (by decide) (br_f (by decide) (br_f (by decide) ?_))))
    unfold wY_rta_60
    exact (ya_fins1 HP e (by decide) (by decide) (hQ _ _ _ _))
  · have e : st p = 7 := es
    rw [e]
    refine (nm_e (br_f (by decide) (br_f (by decide) (br_f (by decide) (br_f (by decide) (br_f (by decide) (br_t (by decide) ⟨pv, (nm_e ?_)⟩)))))))
    have tj : ∀ t : Nat → Int32, pn_tj (upd st p 6) t p = t := fun t => pn_tj_on (by rw [pn_at]; decide) (by rw [pn_at]; decide)
    refine H _ _ _ _ _ _ _ _ _ _ _ _ _ _ _ _ _ _ _ _ _ _ _ _ _ _ _ _ _ _ ?_ (fun Q hQ => ?_)
    · rw [tj]; exact ⟨(pn_VS_u (n := 6) VS rfl (by decide) (fun j ej => by first | rfl | (rw [pn_ne _ _ ej]) | (rw [pn_ne _ _ ej, pn_ne _ _ ej])) (fun z => absurd z (by decide))), VO, VQ, VN⟩
    rw [tj] at hQ
    unfold wpY_rta
    refine ya_st HP ?_
    rw [e]
    refine (br_f (by decide) (br_f (by decide) (br_t (by decide) (br_f (by decide) ?_))))
    unfold wY_rta_60
    exact (ya_fin1 HP (by decide) (by decide) (hQ _ _ _ _))
  · have e : st p = 8 := es
    rw [e]
    refine (nm_e (br_f (by decide) (br_f (by decide) (br_f (by decide) (br_f (by decide) (br_f (by decide) (br_f (by decide) (br_t (by decide) ?_))))))))
    have tj : ∀ t : Nat → Int32, pn_tj st t p = t := fun t => pn_tj_on (by rw [e]; decide) (by rw [e]; decide)
    refine H _ _ _ _ _ _ _ _ _ _ _ _ _ _ _ _ _ _ _ _ _ _ _ _ _ _ _ _ _ _ ?_ (fun Q hQ => ?_)
    · rw [tj]; exact ⟨(pn_VS_k (n := 8) VS hp es (by decide) (fun j ej => by first | rfl | (rw [pn_ne _ _ ej]) | (rw [pn_ne _ _ ej, pn_ne _ _ ej])) (fun z => absurd z (by decide))), VO, VQ, VN⟩
    rw [tj] at hQ
    unfold wpY_rta
    refine ya_st HP ?_
    rw [e]
    refine (br_f (by decide) (br_f (by decide) (br_f (by decide) (br_f (by decide) ?_))))
    unfold wY_rta_60
    exact (ya_fins1 HP e (by decide) (by decide) (hQ _ _ _ _))
  · have e : st p = 9 := es
    rw [e]
    refine (nm_e (br_f (by decide) (br_f (by decide) (br_f (by decide) (br_f (by decide) (br_f (by decide) (br_f (by decide) (br_f (by decide) (br_t (by decide) ⟨pv, ⟨pv, (nm_e (xa_scr HP ez hz8 ⟨pv, (nm_e ?_)⟩))⟩⟩)))))))))
    have tj : ∀ t : Nat → Int32, pn_tj (upd st p 6) t p = t := fun t => pn_tj_on (by rw [pn_at]; decide) (by rw [pn_at]; decide)
    refine H _ _ _ _ _ _ _ _ _ _ _ _ _ _ _ _ _ _ _ _ _ _ _ _ _ _ _ _ _ _ ?_ (fun Q hQ => ?_)
    · rw [tj]; exact ⟨(pn_VS_u (n := 6) VS rfl (by decide) (fun j ej => by first | rfl | (rw [pn_ne _ _ ej]) | (rw [pn_ne _ _ ej, pn_ne _ _ ej])) (fun z => absurd z (by decide))), VO, (pn_VQ_a VQ hp), VN⟩
    rw [tj] at hQ
    unfold wpY_rta
    refine ya_st HP ?_
    rw [e]
    refine (br_f (by decide) (br_f (by decide) (br_f (by decide) (br_t (by decide) (ya_tld HP (ya_scr HP VO ez hz8 (fun _ => ?_)))))))
    unfold wY_rta_60
    exact (ya_fin1 HP (by decide) (by decide) (hQ _ _ _ _))
theorem ev_rxj (HP : pn_P P p) (V : pn_V st ti lo hi ic q no) (hM : ∀ f, f < 7 → ih f = M f) (hN : ∀ f, f < 7 → mg f = M f) (h2s : 2 ≤ st p) (b1 : ¬ M 2 < 1) (b7 : M 2 ≤ 7) (H : pn_H post p ih mg (fun Q => wpY_rxjMinus Q (C, T, F, K, pn_I st rs ti ni cr hc nk ms ei us dn sa fi, pn_O lo hi wa ic se lc rm, w, q, mg, ou, rp, ca, sg) P)) : wpX_onCodeReject post (C, T, F, K, rc, st, rs, ti, ni, cr, hc, nk, ms, ei, us, dn, sa, fi, lo, hi, wa, ic, se, lc, rm, w, q, ih, vd, ro, no) P := by
  obtain ⟨VS, VO, VQ, VN⟩ := V
  have hp := pp_lt HP
  have pv := pp_v HP
  obtain ⟨s, hs9, es, ht⟩ := VS p hp
  obtain ⟨z, hz8, ez⟩ := VQ p hp
  obtain ⟨z2, hz82, ez2⟩ := (pn_VQ_a VQ hp) p hp
  have hs2 : 2 ≤ s := by
    rw [es] at h2s
    exact (nI_leI (a := 2) (by decide) (by omega)).mp h2s
  have m1 := hM 1 (by decide)
  have y1 := hN 1 (by decide)
  have m2 := hM 2 (by decide)
  rw [← m2] at b1 b7
  unfold wpX_onCodeReject
  refine nm_e ?_
  rw [pp_n HP]
  have hcase : s = 2 ∨ s = 3 ∨ s = 4 ∨ s = 5 ∨ s = 6 ∨ s = 7 ∨ s = 8 ∨ s = 9 := by omega
  rcases hcase with rfl | rfl | rfl | rfl | rfl | rfl | rfl | rfl
  · have e : st p = 2 := es
    rw [e]
    refine (br_f b1 (br_t b7 ⟨pv, (br_f (by decide) (xa_finle HP (by rw [e]; decide) (by rw [e]; decide) ?_))⟩))
    have tj : ∀ t : Nat → Int32, pn_tj st t p = upd t p 0 := fun t => pn_tj_off (by rw [e]; decide)
    refine H _ _ _ _ _ _ _ _ _ _ _ _ _ _ _ _ _ _ _ _ _ _ _ _ _ _ _ _ _ _ ?_ (fun Q hQ => ?_)
    · rw [tj]; exact ⟨(pn_VS_k (n := 2) VS hp es (by decide) (fun j ej => by first | rfl | (rw [pn_ne _ _ ej]) | (rw [pn_ne _ _ ej, pn_ne _ _ ej])) (fun _ => pn_at _ _ _)), VO, VQ, VN⟩
    rw [tj] at hQ
    unfold wpY_rxjMinus
    refine ya_st HP ?_
    rw [e]
    refine (br_f (by decide) (br_f (by decide) (ya_tlf HP (br_f (by decide) (br_t (by decide) (br_f (by decide) ?_))))))
    unfold wY_rxjMinus_67
    exact (ya_fins0 HP e (by decide) (hQ _ _ _ _))
  · have e : st p = 3 := es
    rw [e]
    refine (br_f b1 (br_t b7 ⟨pv, (br_f (by decide) (xa_finle HP (by rw [e]; decide) (by rw [e]; decide) ?_))⟩))
    have tj : ∀ t : Nat → Int32, pn_tj st t p = upd t p 0 := fun t => pn_tj_off (by rw [e]; decide)
    refine H _ _ _ _ _ _ _ _ _ _ _ _ _ _ _ _ _ _ _ _ _ _ _ _ _ _ _ _ _ _ ?_ (fun Q hQ => ?_)
    · rw [tj]; exact ⟨(pn_VS_k (n := 3) VS hp es (by decide) (fun j ej => by first | rfl | (rw [pn_ne _ _ ej]) | (rw [pn_ne _ _ ej, pn_ne _ _ ej])) (fun _ => pn_at _ _ _)), VO, VQ, VN⟩
    rw [tj] at hQ
    unfold wpY_rxjMinus
    refine ya_st HP ?_
    rw [e]
    refine (br_f (by decide) (br_f (by decide) (ya_tlf HP (br_f (by decide) (br_t (by decide) (br_f (by decide) ?_))))))
    unfold wY_rxjMinus_67
    exact (ya_fins0 HP e (by decide) (hQ _ _ _ _))
  · have e : st p = 4 := es
    rw [e]
    refine (br_f b1 (br_t b7 ⟨pv, (br_f (by decide) (xa_fin4 HP e ?_))⟩))
    have tj : ∀ t : Nat → Int32, pn_tj (upd st p 2) t p = upd t p 0 := fun t => pn_tj_off (by rw [pn_at]; decide)
    refine H _ _ _ _ _ _ _ _ _ _ _ _ _ _ _ _ _ _ _ _ _ _ _ _ _ _ _ _ _ _ ?_ (fun Q hQ => ?_)
    · rw [tj]; exact ⟨(pn_VS_u (n := 2) VS rfl (by decide) (fun j ej => by first | rfl | (rw [pn_ne _ _ ej]) | (rw [pn_ne _ _ ej, pn_ne _ _ ej])) (fun _ => pn_at _ _ _)), VO, VQ, VN⟩
    rw [tj] at hQ
    unfold wpY_rxjMinus
    refine ya_st HP ?_
    rw [e]
    refine (br_f (by decide) (br_f (by decide) (ya_tlf HP (br_t (by decide) (br_t (by decide) (br_f (by decide) ?_))))))
    unfold wY_rxjMinus_67
    exact (ya_fin0 HP (by decide) (hQ _ _ _ _))
  · have e : st p = 5 := es
    rw [e]
    refine (br_f b1 (br_t b7 ⟨pv, (br_f (by decide) (xa_fingt HP (by rw [e]; decide) (by rw [e]; decide) ?_))⟩))
    have tj : ∀ t : Nat → Int32, pn_tj (upd st p 3) t p = upd t p 0 := fun t => pn_tj_off (by rw [pn_at]; decide)
    refine H _ _ _ _ _ _ _ _ _ _ _ _ _ _ _ _ _ _ _ _ _ _ _ _ _ _ _ _ _ _ ?_ (fun Q hQ => ?_)
    · rw [tj]; exact ⟨(pn_VS_u (n := 3) VS rfl (by decide) (fun j ej => by first | rfl | (rw [pn_ne _ _ ej]) | (rw [pn_ne _ _ ej, pn_ne _ _ ej])) (fun _ => pn_at _ _ _)), VO, VQ, VN⟩
    rw [tj] at hQ
    unfold wpY_rxjMinus
    refine ya_st HP ?_
    rw [e]
    refine (br_f (by decide) (br_f (by decide) (ya_tlf HP (br_f (by decide) (br_f (by decide) (br_f (by decide) (br_f (by decide) ?_)))))))
    unfold wY_rxjMinus_67
    exact (ya_fin0 HP (by decide) (hQ _ _ _ _))
  · have e : st p = 6 := es
    rw [e]
    refine (br_f b1 (br_t b7 ⟨pv, (br_f (by decide) (xa_fingt HP (by rw [e]; decide) (by rw [e]; decide) ?_))⟩))
    have tj : ∀ t : Nat → Int32, pn_tj (upd st p 3) t p = upd t p 0 := fun t => pn_tj_off (by rw [pn_at]; decide)
    refine H _ _ _ _ _ _ _ _ _ _ _ _ _ _ _ _ _ _ _ _ _ _ _ _ _ _ _ _ _ _ ?_ (fun Q hQ => ?_)
    · rw [tj]; exact ⟨(pn_VS_u (n := 3) VS rfl (by decide) (fun j ej => by first | rfl | (rw [pn_ne _ _ ej]) | (rw [pn_ne _ _ ej, pn_ne _ _ ej])) (fun _ => pn_at _ _ _)), VO, VQ, VN⟩
    rw [tj] at hQ
    unfold wpY_rxjMinus
    refine ya_st HP ?_
    rw [e]
    refine (br_f (by decide) (br_f (by decide) (ya_tlf HP (br_f (by decide) (br_f (by decide) (br_f (by decide) (br_f (by decide) ?_)))))))
    unfold wY_rxjMinus_67
    exact (ya_fin0 HP (by decide) (hQ _ _ _ _))
  · have e : st p = 7 := es
    rw [e]
    refine (br_f b1 (br_t b7 ⟨pv, (br_f (by decide) (xa_fingt HP (by rw [e]; decide) (by rw [e]; decide) ?_))⟩))
    have tj : ∀ t : Nat → Int32, pn_tj (upd st p 3) t p = upd t p 0 := fun t => pn_tj_off (by rw [pn_at]; decide)
    refine H _ _ _ _ _ _ _ _ _ _ _ _ _ _ _ _ _ _ _ _ _ _ _ _ _ _ _ _ _ _ ?_ (fun Q hQ => ?_)
    · rw [tj]; exact ⟨(pn_VS_u (n := 3) VS rfl (by decide) (fun j ej => by first | rfl | (rw [pn_ne _ _ ej]) | (rw [pn_ne _ _ ej, pn_ne _ _ ej])) (fun _ => pn_at _ _ _)), VO, VQ, VN⟩
    rw [tj] at hQ
    unfold wpY_rxjMinus
    refine ya_st HP ?_
    rw [e]
    refine (br_f (by decide) (br_f (by decide) (ya_tlf HP (br_f (by decide) (br_f (by decide) (br_f (by decide) (br_f (by decide) ?_)))))))
    unfold wY_rxjMinus_67
    exact (ya_fin0 HP (by decide) (hQ _ _ _ _))
  · have e : st p = 8 := es
    rw [e]
    refine (br_f b1 (br_t b7 ⟨pv, (br_f (by decide) (xa_fingt HP (by rw [e]; decide) (by rw [e]; decide) ?_))⟩))
    have tj : ∀ t : Nat → Int32, pn_tj (upd st p 3) t p = upd t p 0 := fun t => pn_tj_off (by rw [pn_at]; decide)
    refine H _ _ _ _ _ _ _ _ _ _ _ _ _ _ _ _ _ _ _ _ _ _ _ _ _ _ _ _ _ _ ?_ (fun Q hQ => ?_)
    · rw [tj]; exact ⟨(pn_VS_u (n := 3) VS rfl (by decide) (fun j ej => by first | rfl | (rw [pn_ne _ _ ej]) | (rw [pn_ne _ _ ej, pn_ne _ _ ej])) (fun _ => pn_at _ _ _)), VO, VQ, VN⟩
    rw [tj] at hQ
    unfold wpY_rxjMinus
    refine ya_st HP ?_
    rw [e]
    refine (br_f (by decide) (br_f (by decide) (ya_tlf HP (br_f (by decide) (br_f (by decide) (br_f (by decide) (br_f (by decide) ?_)))))))
    unfold wY_rxjMinus_67
    exact (ya_fin0 HP (by decide) (hQ _ _ _ _))
  · have e : st p = 9 := es
    rw [e]
    refine (br_f b1 (br_t b7 ⟨pv, (br_t (by decide) ⟨pv, ⟨pv, (nm_e (xa_bterm HP VN ez hz8 ?_))⟩⟩)⟩))
    have tj : ∀ t : Nat → Int32, pn_tj (upd st p 5) t p = t := fun t => pn_tj_on (by rw [pn_at]; decide) (by rw [pn_at]; decide)
    refine H _ _ _ _ _ _ _ _ _ _ _ _ _ _ _ _ _ _ _ _ _ _ _ _ _ _ _ _ _ _ ?_ (fun Q hQ => ?_)
    · rw [tj]; exact ⟨(pn_VS_u (n := 5) VS rfl (by decide) (fun j ej => by first | rfl | (rw [pn_ne _ _ ej]) | (rw [pn_ne _ _ ej, pn_ne _ _ ej])) (fun z => absurd z (by decide))), VO, (pn_VQ_a VQ hp), VN⟩
    rw [tj] at hQ
    unfold wpY_rxjMinus
    refine ya_st HP ?_
    rw [e]
    refine (br_f (by decide) (br_t (by decide) (br_f (by decide) (br_f (by decide) (br_t (by decide) (br_t (by decide) (ya_tld HP (ya_ircT HP (ya_str HP ez hz8 (fun _ => ?_))))))))))
    unfold wY_rxjMinus_67
    exact (ya_fin1 HP (by decide) (by decide) (hQ _ _ _ _))
theorem ev_top (HP : pn_P P p) (V : pn_V st ti lo hi ic q no) (hr : 0 < rs p) (h4 : ¬ st p < 4) (h8 : ¬ 8 < st p) (H : pn_H post p ih mg (fun Q => ∀ ou rp ca sg : Nat → Int32, wpY_toPlus Q (C, T, F, K, pn_I st rs ti ni cr hc nk ms ei us dn sa fi, pn_O lo hi wa ic se lc rm, w, q, mg, ou, rp, ca, sg) P)) : wpX_onTimeout post (C, T, F, K, rc, st, rs, ti, ni, cr, hc, nk, ms, ei, us, dn, sa, fi, lo, hi, wa, ic, se, lc, rm, w, q, ih, vd, ro, no) P := by
  obtain ⟨VS, VO, VQ, VN⟩ := V
  have hp := pp_lt HP
  have pv := pp_v HP
  obtain ⟨s, hs9, es, ht⟩ := VS p hp
  obtain ⟨z, hz8, ez⟩ := VQ p hp
  obtain ⟨z2, hz82, ez2⟩ := (pn_VQ_a VQ hp) p hp
  have hs4 : 4 ≤ s := Nat.le_of_not_lt (fun z => h4 (by rw [es]; exact nI_lt (b := 4) z (by decide)))
  have hs8 : s ≤ 8 := Nat.le_of_not_lt (fun z => h8 (by rw [es]; exact nI_lt (a := 8) z (by omega)))
  unfold wpX_onTimeout wX_onTimeout_37
  refine ⟨pv, ?_⟩
  rw [pp_n HP]
  have hcase : s = 4 ∨ s = 5 ∨ s = 6 ∨ s = 7 ∨ s = 8 := by omega
  rcases hcase with rfl | rfl | rfl | rfl | rfl
  · have e : st p = 4 := es
    rw [e]
    refine (br_t hr ⟨pv, (br_t (by decide) (xa_str HP VN ez hz8 ?_))⟩)
    have tj : ∀ t : Nat → Int32, pn_tj st t p = t := fun t => pn_tj_on (by rw [e]; decide) (by rw [e]; decide)
    refine H _ _ _ _ _ _ _ _ _ _ _ _ _ _ _ _ _ _ _ _ _ _ _ _ _ _ _ _ _ _ ?_ (fun Q hQ => ?_)
    · rw [tj]; exact ⟨(pn_VS_k (n := 4) VS hp es (by decide) (fun j ej => by first | rfl | (rw [pn_ne _ _ ej]) | (rw [pn_ne _ _ ej, pn_ne _ _ ej])) (fun z => absurd z (by decide))), VO, (pn_VQ_a VQ hp), VN⟩
    rw [tj] at hQ
    intro ou0 rp0 ca0 sg0
    unfold wpY_toPlus
    refine ya_st HP ?_
    rw [e]
    refine (br_t (by decide) ?_)
    unfold wY_toPlus_18
    refine (ya_str HP ez hz8 (fun _ => (br_f (by decide) (br_f (by decide) (br_f (by decide) ?_)))))
    unfold wY_toPlus_54
    exact (ya_fins1 HP e (by decide) (by decide) (hQ _ _ _ _))
  · have e : st p = 5 := es
    rw [e]
    refine (br_t hr ⟨pv, (br_f (by decide) ⟨pv, (br_t (by decide) (xa_str HP VN ez hz8 ?_))⟩)⟩)
    have tj : ∀ t : Nat → Int32, pn_tj st t p = t := fun t => pn_tj_on (by rw [e]; decide) (by rw [e]; decide)
    refine H _ _ _ _ _ _ _ _ _ _ _ _ _ _ _ _ _ _ _ _ _ _ _ _ _ _ _ _ _ _ ?_ (fun Q hQ => ?_)
    · rw [tj]; exact ⟨(pn_VS_k (n := 5) VS hp es (by decide) (fun j ej => by first | rfl | (rw [pn_ne _ _ ej]) | (rw [pn_ne _ _ ej, pn_ne _ _ ej])) (fun z => absurd z (by decide))), VO, (pn_VQ_a VQ hp), VN⟩
    rw [tj] at hQ
    intro ou0 rp0 ca0 sg0
    unfold wpY_toPlus
    refine ya_st HP ?_
    rw [e]
    refine (br_f (by decide) (br_t (by decide) ?_))
    unfold wY_toPlus_18
    refine (ya_str HP ez hz8 (fun _ => (br_f (by decide) (br_f (by decide) (br_f (by decide) ?_)))))
    unfold wY_toPlus_54
    exact (ya_fins1 HP e (by decide) (by decide) (hQ _ _ _ _))
  · have e : st p = 6 := es
    rw [e]
    refine (br_t hr ⟨pv, (br_f (by decide) ⟨pv, (br_f (by decide) (xa_scr HP ez hz8 ⟨pv, (br_f (by rw [e]; decide) ?_)⟩))⟩)⟩)
    have tj : ∀ t : Nat → Int32, pn_tj st t p = t := fun t => pn_tj_on (by rw [e]; decide) (by rw [e]; decide)
    refine H _ _ _ _ _ _ _ _ _ _ _ _ _ _ _ _ _ _ _ _ _ _ _ _ _ _ _ _ _ _ ?_ (fun Q hQ => ?_)
    · rw [tj]; exact ⟨(pn_VS_k (n := 6) VS hp es (by decide) (fun j ej => by first | rfl | (rw [pn_ne _ _ ej]) | (rw [pn_ne _ _ ej, pn_ne _ _ ej])) (fun z => absurd z (by decide))), VO, (pn_VQ_a VQ hp), VN⟩
    rw [tj] at hQ
    intro ou0 rp0 ca0 sg0
    unfold wpY_toPlus
    refine ya_st HP ?_
    rw [e]
    refine (br_f (by decide) (br_f (by decide) (br_t (by decide) ?_)))
    unfold wY_toPlus_35
    refine (ya_scr HP VO ez hz8 (fun _ => (br_f (by decide) ?_)))
    unfold wY_toPlus_54
    exact (ya_fins1 HP e (by decide) (by decide) (hQ _ _ _ _))
  · have e : st p = 7 := es
    rw [e]
    refine (br_t hr ⟨pv, (br_f (by decide) ⟨pv, (br_f (by decide) (xa_scr HP ez hz8 ⟨pv, (br_t e ⟨pv, (nm_e ?_)⟩)⟩))⟩)⟩)
    have tj : ∀ t : Nat → Int32, pn_tj (upd st p 6) t p = t := fun t => pn_tj_on (by rw [pn_at]; decide) (by rw [pn_at]; decide)
    refine H _ _ _ _ _ _ _ _ _ _ _ _ _ _ _ _ _ _ _ _ _ _ _ _ _ _ _ _ _ _ ?_ (fun Q hQ => ?_)
    · rw [tj]; exact ⟨(pn_VS_u (n := 6) VS rfl (by decide) (fun j ej => by first | rfl | (rw [pn_ne _ _ ej]) | (rw [pn_ne _ _ ej, pn_ne _ _ ej])) (fun z => absurd z (by decide))), VO, (pn_VQ_a VQ hp), VN⟩
    rw [tj] at hQ
    intro ou0 rp0 ca0 sg0
    unfold wpY_toPlus
    refine ya_st HP ?_
    rw [e]
    refine (br_f (by decide) (br_f (by decide) (br_f (by decide) (br_f (by decide) (br_t (by decide) (ya_scr HP VO ez hz8 (fun _ => ?_)))))))
    unfold wY_toPlus_54
    exact (ya_fin1 HP (by decide) (by decide) (hQ _ _ _ _))
  · have e : st p = 8 := es
    rw [e]
    refine (br_t hr ⟨pv, (br_f (by decide) ⟨pv, (br_f (by decide) (xa_scr HP ez hz8 ⟨pv, (br_f (by rw [e]; decide) ?_)⟩))⟩)⟩)
    have tj : ∀ t : Nat → Int32, pn_tj st t p = t := fun t => pn_tj_on (by rw [e]; decide) (by rw [e]; decide)
    refine H _ _ _ _ _ _ _ _ _ _ _ _ _ _ _ _ _ _ _ _ _ _ _ _ _ _ _ _ _ _ ?_ (fun Q hQ => ?_)
    · rw [tj]; exact ⟨(pn_VS_k (n := 8) VS hp es (by decide) (fun j ej => by first | rfl | (rw [pn_ne _ _ ej]) | (rw [pn_ne _ _ ej, pn_ne _ _ ej])) (fun z => absurd z (by decide))), VO, (pn_VQ_a VQ hp), VN⟩
    rw [tj] at hQ
    intro ou0 rp0 ca0 sg0
    unfold wpY_toPlus
    refine ya_st HP ?_
    rw [e]
    refine (br_f (by decide) (br_f (by decide) (br_f (by decide) (br_t (by decide) ?_))))
    unfold wY_toPlus_35
    refine (ya_scr HP VO ez hz8 (fun _ => (br_f (by decide) ?_)))
    unfold wY_toPlus_54
    exact (ya_fins1 HP e (by decide) (by decide) (hQ _ _ _ _))
theorem ev_tom (HP : pn_P P p) (V : pn_V st ti lo hi ic q no) (hr : ¬ 0 < rs p) (h4 : ¬ st p < 4) (h8 : ¬ 8 < st p) (H : pn_H post p ih mg (fun Q => ∀ ou rp ca sg : Nat → Int32, wpY_toMinus Q (C, T, F, K, pn_I st rs ti ni cr hc nk ms ei us dn sa fi, pn_O lo hi wa ic se lc rm, w, q, mg, ou, rp, ca, sg) P)) : wpX_onTimeout post (C, T, F, K, rc, st, rs, ti, ni, cr, hc, nk, ms, ei, us, dn, sa, fi, lo, hi, wa, ic, se, lc, rm, w, q, ih, vd, ro, no) P := by
  obtain ⟨VS, VO, VQ, VN⟩ := V
  have hp := pp_lt HP
  have pv := pp_v HP
  obtain ⟨s, hs9, es, ht⟩ := VS p hp
  obtain ⟨z, hz8, ez⟩ := VQ p hp
  obtain ⟨z2, hz82, ez2⟩ := (pn_VQ_a VQ hp) p hp
  have hs4 : 4 ≤ s := Nat.le_of_not_lt (fun z => h4 (by rw [es]; exact nI_lt (b := 4) z (by decide)))
  have hs8 : s ≤ 8 := Nat.le_of_not_lt (fun z => h8 (by rw [es]; exact nI_lt (a := 8) z (by omega)))
  unfold wpX_onTimeout
  refine ⟨pv, ?_⟩
  rw [pp_n HP]
  have hcase : s = 4 ∨ s = 5 ∨ s = 6 ∨ s = 7 ∨ s = 8 := by omega
  rcases hcase with rfl | rfl | rfl | rfl | rfl
  · have e : st p = 4 := es
    rw [e]
    refine (br_f hr (xa_fin4 HP e ?_))
    have tj : ∀ t : Nat → Int32, pn_tj (upd st p 2) t p = upd t p 0 := fun t => pn_tj_off (by rw [pn_at]; decide)
    refine H _ _ _ _ _ _ _ _ _ _ _ _ _ _ _ _ _ _ _ _ _ _ _ _ _ _ _ _ _ _ ?_ (fun Q hQ => ?_)
    · rw [tj]; exact ⟨(pn_VS_u (n := 2) VS rfl (by decide) (fun j ej => by first | rfl | (rw [pn_ne _ _ ej]) | (rw [pn_ne _ _ ej, pn_ne _ _ ej])) (fun _ => pn_at _ _ _)), VO, VQ, VN⟩
    rw [tj] at hQ
    intro ou0 rp0 ca0 sg0
    unfold wpY_toMinus
    refine ya_st HP ?_
    rw [e]
    refine (br_t (by decide) (ya_tlf HP (br_t (by decide) ?_)))
    unfold wY_toMinus_38
    exact (ya_fin0 HP (by decide) (hQ _ _ _ _))
  · have e : st p = 5 := es
    rw [e]
    refine (br_f hr (xa_fingt HP (by rw [e]; decide) (by rw [e]; decide) ?_))
    have tj : ∀ t : Nat → Int32, pn_tj (upd st p 3) t p = upd t p 0 := fun t => pn_tj_off (by rw [pn_at]; decide)
    refine H _ _ _ _ _ _ _ _ _ _ _ _ _ _ _ _ _ _ _ _ _ _ _ _ _ _ _ _ _ _ ?_ (fun Q hQ => ?_)
    · rw [tj]; exact ⟨(pn_VS_u (n := 3) VS rfl (by decide) (fun j ej => by first | rfl | (rw [pn_ne _ _ ej]) | (rw [pn_ne _ _ ej, pn_ne _ _ ej])) (fun _ => pn_at _ _ _)), VO, VQ, VN⟩
    rw [tj] at hQ
    intro ou0 rp0 ca0 sg0
    unfold wpY_toMinus
    refine ya_st HP ?_
    rw [e]
    refine (br_f (by decide) (br_f (by decide) (br_f (by decide) (ya_tlf HP ?_))))
    unfold wY_toMinus_38
    exact (ya_fin0 HP (by decide) (hQ _ _ _ _))
  · have e : st p = 6 := es
    rw [e]
    refine (br_f hr (xa_fingt HP (by rw [e]; decide) (by rw [e]; decide) ?_))
    have tj : ∀ t : Nat → Int32, pn_tj (upd st p 3) t p = upd t p 0 := fun t => pn_tj_off (by rw [pn_at]; decide)
    refine H _ _ _ _ _ _ _ _ _ _ _ _ _ _ _ _ _ _ _ _ _ _ _ _ _ _ _ _ _ _ ?_ (fun Q hQ => ?_)
    · rw [tj]; exact ⟨(pn_VS_u (n := 3) VS rfl (by decide) (fun j ej => by first | rfl | (rw [pn_ne _ _ ej]) | (rw [pn_ne _ _ ej, pn_ne _ _ ej])) (fun _ => pn_at _ _ _)), VO, VQ, VN⟩
    rw [tj] at hQ
    intro ou0 rp0 ca0 sg0
    unfold wpY_toMinus
    refine ya_st HP ?_
    rw [e]
    refine (br_f (by decide) (br_f (by decide) (br_f (by decide) (ya_tlf HP ?_))))
    unfold wY_toMinus_38
    exact (ya_fin0 HP (by decide) (hQ _ _ _ _))
  · have e : st p = 7 := es
    rw [e]
    refine (br_f hr (xa_fingt HP (by rw [e]; decide) (by rw [e]; decide) ?_))
    have tj : ∀ t : Nat → Int32, pn_tj (upd st p 3) t p = upd t p 0 := fun t => pn_tj_off (by rw [pn_at]; decide)
    refine H _ _ _ _ _ _ _ _ _ _ _ _ _ _ _ _ _ _ _ _ _ _ _ _ _ _ _ _ _ _ ?_ (fun Q hQ => ?_)
    · rw [tj]; exact ⟨(pn_VS_u (n := 3) VS rfl (by decide) (fun j ej => by first | rfl | (rw [pn_ne _ _ ej]) | (rw [pn_ne _ _ ej, pn_ne _ _ ej])) (fun _ => pn_at _ _ _)), VO, VQ, VN⟩
    rw [tj] at hQ
    intro ou0 rp0 ca0 sg0
    unfold wpY_toMinus
    refine ya_st HP ?_
    rw [e]
    refine (br_f (by decide) (br_f (by decide) (br_f (by decide) (ya_tlf HP ?_))))
    unfold wY_toMinus_38
    exact (ya_fin0 HP (by decide) (hQ _ _ _ _))
  · have e : st p = 8 := es
    rw [e]
    refine (br_f hr (xa_fingt HP (by rw [e]; decide) (by rw [e]; decide) ?_))
    have tj : ∀ t : Nat → Int32, pn_tj (upd st p 3) t p = upd t p 0 := fun t => pn_tj_off (by rw [pn_at]; decide)
    refine H _ _ _ _ _ _ _ _ _ _ _ _ _ _ _ _ _ _ _ _ _ _ _ _ _ _ _ _ _ _ ?_ (fun Q hQ => ?_)
    · rw [tj]; exact ⟨(pn_VS_u (n := 3) VS rfl (by decide) (fun j ej => by first | rfl | (rw [pn_ne _ _ ej]) | (rw [pn_ne _ _ ej, pn_ne _ _ ej])) (fun _ => pn_at _ _ _)), VO, VQ, VN⟩
    rw [tj] at hQ
    intro ou0 rp0 ca0 sg0
    unfold wpY_toMinus
    refine ya_st HP ?_
    rw [e]
    refine (br_f (by decide) (br_f (by decide) (br_f (by decide) (ya_tlf HP ?_))))
    unfold wY_toMinus_38
    exact (ya_fin0 HP (by decide) (hQ _ _ _ _))
end EV
end
section
theorem pn_codes (x : Int32) : x < 1 ∨ 11 < x ∨ x = 1 ∨ x = 2 ∨ x = 3 ∨ x = 4 ∨ x = 5 ∨ x = 6 ∨ x = 7 ∨ x = 8 ∨ x = 9 ∨ x = 10 ∨ x = 11 := by
  by_cases h1 : x < 1
  · exact Or.inl h1
  by_cases h2 : 11 < x
  · exact Or.inr (Or.inl h2)
  have hx : x ≤ 11 := Int32.not_lt.mp h2
  have h0 : ¬ x < 0 := fun z => h1 (Int32.lt_trans z (by decide))
  obtain ⟨j, hj, rfl⟩ := nI_of2 (M := 11) (n := 11) (by decide) h0 hx
  have hj1 : 1 ≤ j := by
    rcases Nat.eq_zero_or_pos j with rfl | h
    · exact absurd (by decide) h1
    · exact h
  have : j = 1 ∨ j = 2 ∨ j = 3 ∨ j = 4 ∨ j = 5 ∨ j = 6 ∨ j = 7 ∨ j = 8 ∨ j = 9 ∨ j = 10 ∨ j = 11 := by omega
  rcases this with rfl | rfl | rfl | rfl | rfl | rfl | rfl | rfl | rfl | rfl | rfl <;> decide
theorem pn_lt12 {x : Int32} (h : x < 1) : x < 2 := Int32.lt_trans h (by decide)
theorem pn_gt1 {x : Int32} (h : 11 < x) : ¬ x < 1 := fun z => absurd (Int32.lt_trans h z) (by decide)
theorem pn_gt2 {x : Int32} (h : 11 < x) : ¬ x < 2 := fun z => absurd (Int32.lt_trans h z) (by decide)
theorem pn_gt4 {x : Int32} (h : 11 < x) : 4 < x := Int32.lt_trans (by decide) h
section RV
variable {C T F K rc : Int32} {st rs ti ni cr hc nk ms ei us dn sa fi lo hi wa ic se lc rm w q ih vd ro no mg ou rp ca sg : Nat → Int32} {P : Int32} {p : Nat}
variable {post : SX → Prop} {post2 : SY → Prop} {M : Nat → Int32}
theorem ya_finsk (HP : pn_P P p) {s : Nat} (es : st p = nI s) (hs9 : s ≤ 9) (ht : s < 4 ∨ 8 < s → ti p = 0) (h : post2 (C, T, F, K, pn_I st rs ti ni cr hc nk ms ei us dn sa fi, pn_O lo hi wa ic se lc rm, w, q, mg, ou, rp, ca, sg)) : wpY_fin post2 (C, T, F, K, pn_I st rs ti ni cr hc nk ms ei us dn sa fi, pn_O lo hi wa ic se lc rm, w, q, mg, ou, rp, ca, sg) P (st p) := by
  by_cases c4 : s < 4
  · refine ya_fins0 HP rfl (Or.inl (by rw [es]; exact nI_lt (b := 4) c4 (by decide))) ?_
    rw [pn_self ti p 0 (ht (Or.inl c4))]
    exact h
  · have n4 : ¬ st p < 4 := by rw [es]; exact nI_nlt (b := 4) (by omega) (by omega)
    by_cases c8 : 8 < s
    · refine ya_fins0 HP rfl (Or.inr ⟨n4, by rw [es]; exact nI_ge (b := s) (a := 8) c8 (by omega)⟩) ?_
      rw [pn_self ti p 0 (ht (Or.inr c8))]
      exact h
    · exact ya_fins1 HP rfl n4 (by rw [es]; exact nI_le (b := 8) (by omega) (by decide)) h
theorem ev_ka (HP : pn_P P p) (V : pn_V st ti lo hi ic q no) (hM : ∀ f, f < 7 → ih f = M f) (hN : ∀ f, f < 7 → mg f = M f) (hc3 : M 0 = 9 ∨ M 0 = 10 ∨ M 0 = 11) (H : pn_H post p ih mg (fun Q => wY_receive_428 Q P (st p) (M 0) C T F K (pn_I st rs ti ni cr hc nk ms ei us dn sa fi) (pn_O lo hi wa ic se lc rm) w q mg ou rp ca sg)) : wpX_onKeepalive post (C, T, F, K, rc, st, rs, ti, ni, cr, hc, nk, ms, ei, us, dn, sa, fi, lo, hi, wa, ic, se, lc, rm, w, q, ih, vd, ro, no) P := by
  obtain ⟨VS, VO, VQ, VN⟩ := V
  have hp := pp_lt HP
  have pv := pp_v HP
  obtain ⟨s, hs9, es, ht⟩ := VS p hp
  obtain ⟨z, hz8, ez⟩ := VQ p hp
  have V : pn_V st ti lo hi ic q no := ⟨VS, VO, VQ, VN⟩
  have tk : pn_tj st ti p = ti := pn_tj_k es hs9 ht
  have m0 := hM 0 (by decide)
  have m1 := hM 1 (by decide)
  have y1 := hN 1 (by decide)
  unfold wpX_onKeepalive
  refine ⟨pv, ?_⟩
  rw [pp_n HP, m0, m1]
  by_cases c9 : st p = 9
  · refine br_t c9 ?_
    rcases hc3 with c | c | c
    · refine br_t c (xa_app0 HP VN ez hz8 ?_)
      refine H _ _ _ _ _ _ _ _ _ _ _ _ _ _ _ _ _ _ _ _ _ _ _ _ _ _ _ _ _ _ ?_ (fun Q hQ => ?_)
      · rw [tk]; exact ⟨VS, VO, pn_VQ_a VQ hp, VN⟩
      rw [tk] at hQ
      unfold wY_receive_428
      rw [y1]
      refine br_t c9 (br_t c (ya_out (ya_push HP ez hz8 rfl rfl rfl rfl rfl rfl rfl ?_)))
      refine br_t c9 (br_f (by rw [c]; decide) ?_)
      unfold wY_receive_504
      exact ya_finsk HP es hs9 ht (hQ _ _ _ _)
    · refine br_f (by rw [c]; decide) (br_t c ⟨pv, ?_⟩)
      by_cases ce : M 1 = ei p
      · refine br_t ce ⟨pv, nm_e ?_⟩
        refine H _ _ _ _ _ _ _ _ _ _ _ _ _ _ _ _ _ _ _ _ _ _ _ _ _ _ _ _ _ _ ?_ (fun Q hQ => ?_)
        · rw [tk]; exact V
        rw [tk] at hQ
        unfold wY_receive_428 wY_receive_458
        refine br_t c9 (br_f (by rw [c]; decide) (br_t c9 (br_t c ?_)))
        rw [pp_i8 HP, pp_i7 HP, pn_I_a8, pn_I_u7, y1]
        refine ⟨pp_vi8 HP, br_t ce ⟨pp_vi7 HP, nm_e ?_⟩⟩
        unfold wY_receive_504
        exact ya_finsk HP es hs9 ht (hQ _ _ _ _)
      · refine br_f ce ?_
        refine H _ _ _ _ _ _ _ _ _ _ _ _ _ _ _ _ _ _ _ _ _ _ _ _ _ _ _ _ _ _ ?_ (fun Q hQ => ?_)
        · rw [tk]; exact V
        rw [tk] at hQ
        unfold wY_receive_428 wY_receive_458
        refine br_t c9 (br_f (by rw [c]; decide) (br_t c9 (br_t c ?_)))
        rw [pp_i8 HP, pn_I_a8, y1]
        refine ⟨pp_vi8 HP, br_f ce ?_⟩
        unfold wY_receive_504
        exact ya_finsk HP es hs9 ht (hQ _ _ _ _)
    · refine br_f (by rw [c]; decide) (br_f (by rw [c]; decide) ?_)
      refine H _ _ _ _ _ _ _ _ _ _ _ _ _ _ _ _ _ _ _ _ _ _ _ _ _ _ _ _ _ _ ?_ (fun Q hQ => ?_)
      · rw [tk]; exact V
      rw [tk] at hQ
      unfold wY_receive_428 wY_receive_458
      refine br_t c9 (br_f (by rw [c]; decide) (br_t c9 (br_f (by rw [c]; decide) ?_)))
      unfold wY_receive_504
      exact ya_finsk HP es hs9 ht (hQ _ _ _ _)
  · refine br_f c9 ?_
    refine H _ _ _ _ _ _ _ _ _ _ _ _ _ _ _ _ _ _ _ _ _ _ _ _ _ _ _ _ _ _ ?_ (fun Q hQ => ?_)
    · rw [tk]; exact V
    rw [tk] at hQ
    unfold wY_receive_428 wY_receive_458
    refine br_f c9 (br_f c9 ?_)
    unfold wY_receive_504
    exact ya_finsk HP es hs9 ht (hQ _ _ _ _)
theorem ev_scj (HP : pn_P P p) (V : pn_V st ti lo hi ic q no) (hM : ∀ f, f < 7 → ih f = M f) (hN : ∀ f, f < 7 → mg f = M f) (H : pn_H post p ih mg (fun Q => wpY_scj (fun u => match u with | (C9, T9, F9, K9, nf9, op9, w9, q9, mg9, ou9, rp9, ca9, sg9) => wpY_fin Q (C9, T9, F9, K9, nf9, op9, w9, q9, mg9, ou9, rp9, ca9, sg9) P (st p)) (C, T, F, K, pn_I st rs ti ni cr hc nk ms ei us dn sa fi, pn_O lo hi wa ic se lc rm, w, q, mg, ou, rp, ca, sg) P)) : wpX_sendCodeReject post (C, T, F, K, rc, st, rs, ti, ni, cr, hc, nk, ms, ei, us, dn, sa, fi, lo, hi, wa, ic, se, lc, rm, w, q, ih, vd, ro, no) P := by
  obtain ⟨VS, VO, VQ, VN⟩ := V
  have hp := pp_lt HP
  have pv := pp_v HP
  obtain ⟨s, hs9, es, ht⟩ := VS p hp
  obtain ⟨z, hz8, ez⟩ := VQ p hp
  have V : pn_V st ti lo hi ic q no := ⟨VS, VO, VQ, VN⟩
  have tk : pn_tj st ti p = ti := pn_tj_k es hs9 ht
  refine xa_scj HP VN ez hz8 (hM 0 (by decide)) ?_
  refine H _ _ _ _ _ _ _ _ _ _ _ _ _ _ _ _ _ _ _ _ _ _ _ _ _ _ _ _ _ _ ?_ (fun Q hQ => ?_)
  · rw [tk]; exact ⟨VS, VO, pn_VQ_a VQ hp, VN⟩
  rw [tk] at hQ
  refine ya_scj HP ez hz8 (hN 0 (by decide)) (fun _ => ?_)
  exact ya_finsk HP es hs9 ht (hQ _ _ _ _)
theorem ev_rxp (HP : pn_P P p) (V : pn_V st ti lo hi ic q no) (H : pn_H post p ih mg (fun Q => wY_receive_390 Q P (st p) C T F K (pn_I st rs ti ni cr hc nk ms ei us dn sa fi) (pn_O lo hi wa ic se lc rm) w q mg ou rp ca sg)) : wX_onCodeReject_18 post P C T F K rc st rs ti ni cr hc nk ms ei us dn sa fi lo hi wa ic se lc rm w q ih vd ro no := by
  obtain ⟨VS, VO, VQ, VN⟩ := V
  have hp := pp_lt HP
  have pv := pp_v HP
  obtain ⟨s, hs9, es, ht⟩ := VS p hp
  obtain ⟨z, hz8, ez⟩ := VQ p hp
  have V : pn_V st ti lo hi ic q no := ⟨VS, VO, VQ, VN⟩
  have tk : pn_tj st ti p = ti := pn_tj_k es hs9 ht
  unfold wX_onCodeReject_18
  rw [pp_n HP]
  refine ⟨pv, ?_⟩
  by_cases c7 : st p = 7
  · refine br_t c7 ⟨pv, nm_e ?_⟩
    have tj : ∀ t : Nat → Int32, pn_tj (upd st p 6) t p = t := fun t => pn_tj_on (by rw [pn_at]; decide) (by rw [pn_at]; decide)
    refine H _ _ _ _ _ _ _ _ _ _ _ _ _ _ _ _ _ _ _ _ _ _ _ _ _ _ _ _ _ _ ?_ (fun Q hQ => ?_)
    · rw [tj]; exact ⟨pn_VS_u (n := 6) VS rfl (by decide) (fun j ej => rfl) (fun z => absurd z (by decide)), VO, VQ, VN⟩
    rw [tj] at hQ
    unfold wY_receive_390
    refine br_t c7 ?_
    unfold wY_receive_404
    exact ya_fin1 HP (by decide) (by decide) (hQ _ _ _ _)
  · refine br_f c7 ?_
    refine H _ _ _ _ _ _ _ _ _ _ _ _ _ _ _ _ _ _ _ _ _ _ _ _ _ _ _ _ _ _ ?_ (fun Q hQ => ?_)
    · rw [tk]; exact V
    rw [tk] at hQ
    unfold wY_receive_390
    refine br_f c7 ?_
    unfold wY_receive_404
    exact ya_finsk HP es hs9 ht (hQ _ _ _ _)
theorem pn_C2 {J : Nat → Int32} {n f : Int32} : pn_C J n f = 2 ↔ (pn_R J = 0 ∧ pn_N J = 0) := by
  unfold pn_C
  by_cases c1 : pn_R J = 0
  · rw [if_pos c1]
    by_cases c2 : pn_N J = 0
    · rw [if_pos c2]; exact ⟨fun _ => ⟨c1, c2⟩, fun _ => rfl⟩
    · rw [if_neg c2]
      by_cases c3 : n < f
      · rw [if_pos c3]; exact ⟨fun e => absurd e (by decide), fun e => absurd e.2 c2⟩
      · rw [if_neg c3]; exact ⟨fun e => absurd e (by decide), fun e => absurd e.2 c2⟩
  · rw [if_neg c1]; exact ⟨fun e => absurd e (by decide), fun e => absurd e.1 c1⟩
theorem ev_cls (HP : pn_P P p) (V : pn_V st ti lo hi ic q no) (hM : ∀ f, f < 7 → ih f = M f) (hN : ∀ f, f < 7 → mg f = M f) (h2s : 2 ≤ st p) (H : pn_H post p ih mg (fun Q => wY_receive_72 Q P C T F K (pn_I st rs ti ni cr hc nk ms ei us dn sa fi) (pn_O lo hi wa ic se lc rm) w q mg ou rp ca sg)) : wX_receiveRequest_43 post P C T F K rc st rs ti ni cr hc nk ms ei us dn sa fi lo hi wa ic se lc rm w q ih vd ro no := by
  have VO := V.2.1
  unfold wX_receiveRequest_43
  refine xa_class HP hM (fun vd2 ro2 hro => ?_)
  by_cases c2 : pn_C (pn_J lo hi wa ic p M) (nk p) F = 2
  · obtain ⟨cR, cN⟩ := pn_C2.mp c2
    have hro2 : ∀ k, k < 4 → ro2 k = (fun j => M (3 + j)) k := fun k hk => (hro k hk).trans (if_pos c2)
    refine br_t c2 ?_
    refine ev_good (ou := ou) HP V hM hN h2s hro2 ?_
    intro C1 T1 F1 K1 rc1 st1 rs1 ti1 ni1 cr1 hc1 nk1 ms1 ei1 us1 dn1 sa1 fi1 lo1 hi1 wa1 ic1 se1 lc1 rm1 w1 q1 vd1 ro1 no1 V1 hY
    refine H C1 T1 F1 K1 rc1 st1 rs1 ti1 ni1 cr1 hc1 nk1 ms1 ei1 us1 dn1 sa1 fi1 lo1 hi1 wa1 ic1 se1 lc1 rm1 w1 q1 vd1 ro1 no1 V1 (fun Q hQ => ?_)
    unfold wY_receive_72
    refine ya_class HP VO hN (fun _ _ rp2 ca2 sg2 => ?_) (fun c => absurd ⟨cR, cN⟩ c)
    refine br_f (by decide) ?_
    exact hY _ (fun a b c d => hQ a b c d) rp2 ca2 sg2
  · refine br_f c2 ?_
    have nc : ¬ (pn_R (pn_J lo hi wa ic p M) = 0 ∧ pn_N (pn_J lo hi wa ic p M) = 0) := fun e => c2 (pn_C2.mpr e)
    refine ev_bad (ou := ou) HP V hM hN h2s hro ?_
    intro C1 T1 F1 K1 rc1 st1 rs1 ti1 ni1 cr1 hc1 nk1 ms1 ei1 us1 dn1 sa1 fi1 lo1 hi1 wa1 ic1 se1 lc1 rm1 w1 q1 vd1 ro1 no1 V1 hY
    refine H C1 T1 F1 K1 rc1 st1 rs1 ti1 ni1 cr1 hc1 nk1 ms1 ei1 us1 dn1 sa1 fi1 lo1 hi1 wa1 ic1 se1 lc1 rm1 w1 q1 vd1 ro1 no1 V1 (fun Q hQ => ?_)
    unfold wY_receive_72
    refine ya_class HP VO hN (fun a b => absurd ⟨a, b⟩ nc) (fun _ rp2 ca2 sg2 b0 b1 b2 b3 => ?_)
    refine br_t rfl ?_
    exact hY _ (fun a b c d => hQ a b c d) rp2 ca2 sg2 b0 b1 b2 b3
theorem ev_req (HP : pn_P P p) (V : pn_V st ti lo hi ic q no) (hM : ∀ f, f < 7 → ih f = M f) (hN : ∀ f, f < 7 → mg f = M f) (h2s : 2 ≤ st p) (m01 : M 0 = 1) (H : pn_H post p ih mg (fun Q => wpY_receive Q (C, T, F, K, pn_I st rs ti ni cr hc nk ms ei us dn sa fi, pn_O lo hi wa ic se lc rm, w, q, mg, ou, rp, ca, sg) P)) : wpX_receiveRequest post (C, T, F, K, rc, st, rs, ti, ni, cr, hc, nk, ms, ei, us, dn, sa, fi, lo, hi, wa, ic, se, lc, rm, w, q, ih, vd, ro, no) P := by
  obtain ⟨VS, VO, VQ, VN⟩ := V
  have hp := pp_lt HP
  have pv := pp_v HP
  obtain ⟨s, hs9, es, ht⟩ := VS p hp
  obtain ⟨z, hz8, ez⟩ := VQ p hp
  have V : pn_V st ti lo hi ic q no := ⟨VS, VO, VQ, VN⟩
  have tk : pn_tj st ti p = ti := pn_tj_k es hs9 ht
  have y0 : mg 0 = 1 := (hN 0 (by decide)).trans m01
  have y1 := hN 1 (by decide)
  unfold wpX_receiveRequest
  refine ⟨pv, ?_⟩
  rw [pp_n HP, hM 1 (by decide)]
  by_cases c : hc p ≤ M 1
  · refine br_t c ⟨pv, nm_e ⟨pv, ?_⟩⟩
    by_cases c3 : st p = 3
    · refine br_t c3 (xa_start HP ?_)
      refine ev_cls (ou := ou) (rp := rp) (ca := ca) (sg := sg) HP ⟨VS, pn_VO_in VO, VQ, VN⟩ hM hN h2s ?_
      intro C1 T1 F1 K1 rc1 st1 rs1 ti1 ni1 cr1 hc1 nk1 ms1 ei1 us1 dn1 sa1 fi1 lo1 hi1 wa1 ic1 se1 lc1 rm1 w1 q1 vd1 ro1 no1 V1 hY
      refine H C1 T1 F1 K1 rc1 st1 rs1 ti1 ni1 cr1 hc1 nk1 ms1 ei1 us1 dn1 sa1 fi1 lo1 hi1 wa1 ic1 se1 lc1 rm1 w1 q1 vd1 ro1 no1 V1 (fun Q hQ => ?_)
      unfold wpY_receive
      refine ya_st HP ?_
      rw [pp_i5 HP, pn_I_a5, pn_I_u5, y0, y1]
      refine br_t h2s (nm_e (br_t rfl ⟨pp_vi5 HP, br_t c ⟨pp_vi5 HP, nm_e (br_t c3 (ya_start HP ?_))⟩⟩))
      exact hY _ (fun a b c d => hQ a b c d)
    · refine br_f c3 ?_
      refine ev_cls (ou := ou) (rp := rp) (ca := ca) (sg := sg) HP V hM hN h2s ?_
      intro C1 T1 F1 K1 rc1 st1 rs1 ti1 ni1 cr1 hc1 nk1 ms1 ei1 us1 dn1 sa1 fi1 lo1 hi1 wa1 ic1 se1 lc1 rm1 w1 q1 vd1 ro1 no1 V1 hY
      refine H C1 T1 F1 K1 rc1 st1 rs1 ti1 ni1 cr1 hc1 nk1 ms1 ei1 us1 dn1 sa1 fi1 lo1 hi1 wa1 ic1 se1 lc1 rm1 w1 q1 vd1 ro1 no1 V1 (fun Q hQ => ?_)
      unfold wpY_receive
      refine ya_st HP ?_
      rw [pp_i5 HP, pn_I_a5, pn_I_u5, y0, y1]
      refine br_t h2s (nm_e (br_t rfl ⟨pp_vi5 HP, br_t c ⟨pp_vi5 HP, nm_e (br_f c3 ?_)⟩⟩))
      exact hY _ (fun a b c d => hQ a b c d)
  · refine br_f c ?_
    refine H _ _ _ _ _ _ _ _ _ _ _ _ _ _ _ _ _ _ _ _ _ _ _ _ _ _ _ _ _ _ ?_ (fun Q hQ => ?_)
    · rw [tk]; exact V
    rw [tk] at hQ
    unfold wpY_receive
    refine ya_st HP ?_
    rw [pp_i5 HP, pn_I_a5, y0, y1]
    exact br_t h2s (nm_e (br_t rfl ⟨pp_vi5 HP, br_f c (hQ _ _ _ _)⟩))
theorem ys_vA (HP : pn_P P p) {n k : Nat} {y2 y : Int32} (hN : ∀ f, f < 7 → mg f = M f) (m0 : M 0 = 2) (hk : k < 4) (h : wY_receive_140 post2 P y2 (M 0) C T F K (pn_I st rs ti ni cr hc nk ms ei us dn sa fi) (pn_O lo hi wa ic se lc rm) w q mg ou rp ca sg n (pn_fA M se p k y) (nI (k + 1))) : wY_receive_140 post2 P y2 (M 0) C T F K (pn_I st rs ti ni cr hc nk ms ei us dn sa fi) (pn_O lo hi wa ic se lc rm) w q mg ou rp ca sg (n + 1) y (nI k) := by
  refine br_f (pp_g4 hk) ⟨pp_v3 hk, ?_⟩
  rw [pp_3 hk, hN (3 + k) (by omega), pp_o4 HP hk, pn_O_a4]
  refine nm_e ⟨pp_vo4 HP hk, nm_e ?_⟩
  refine br_t m0 ?_
  by_cases c : M (3 + k) = se (p * 4 + k)
  · rw [show pn_fA M se p k y = y from if_pos c] at h
    exact br_t c (br_f (by rw [m0]; decide) (br_f (by rw [m0]; decide) (nm_r (nI_1 k) h)))
  · rw [show pn_fA M se p k y = 0 from if_neg c] at h
    exact br_f c (br_f (by rw [m0]; decide) (br_f (by rw [m0]; decide) (nm_r (nI_1 k) h)))
theorem ya_vA (HP : pn_P P p) (hN : ∀ f, f < 7 → mg f = M f) (h2s : 2 ≤ st p) (m0 : M 0 = 2) (h : wY_receive_140 post2 P (st p) (M 0) C T F K (pn_I st rs ti ni cr hc nk ms ei us dn sa fi) (pn_O lo hi wa ic se lc rm) w q mg ou rp ca sg 1 (pn_gA M se p (if M 1 = cr p then 1 else 0)) (nI 4)) : wpY_receive post2 (C, T, F, K, pn_I st rs ti ni cr hc nk ms ei us dn sa fi, pn_O lo hi wa ic se lc rm, w, q, mg, ou, rp, ca, sg) P := by
  have y0 := hN 0 (by decide)
  have y1 := hN 1 (by decide)
  unfold wpY_receive
  refine ya_st HP ?_
  rw [pp_i4 HP, pn_I_a4, y0, y1]
  refine br_t h2s (nm_e (br_f (by rw [m0]; decide) (br_f (by rw [m0]; decide) (br_f (by rw [m0]; decide) ⟨pp_vi4 HP, ?_⟩))))
  by_cases c : M 1 = cr p
  · rw [if_pos c] at h
    exact br_t c ⟨5, ys_vA HP hN m0 (k := 0) (by decide) (ys_vA HP hN m0 (k := 1) (by decide) (ys_vA HP hN m0 (k := 2) (by decide) (ys_vA HP hN m0 (k := 3) (by decide) h)))⟩
  · rw [if_neg c] at h
    exact br_f c ⟨5, ys_vA HP hN m0 (k := 0) (by decide) (ys_vA HP hN m0 (k := 1) (by decide) (ys_vA HP hN m0 (k := 2) (by decide) (ys_vA HP hN m0 (k := 3) (by decide) h)))⟩
theorem ys_vN (HP : pn_P P p) {n k : Nat} {y2 y : Int32} (hN : ∀ f, f < 7 → mg f = M f) (m0 : M 0 = 3) (hk : k < 4) (h : wY_receive_140 post2 P y2 (M 0) C T F K (pn_I st rs ti ni cr hc nk ms ei us dn sa fi) (pn_O lo hi wa ic se lc rm) w q mg ou rp ca sg n (pn_fN M se p k y) (nI (k + 1))) : wY_receive_140 post2 P y2 (M 0) C T F K (pn_I st rs ti ni cr hc nk ms ei us dn sa fi) (pn_O lo hi wa ic se lc rm) w q mg ou rp ca sg (n + 1) y (nI k) := by
  refine br_f (pp_g4 hk) ⟨pp_v3 hk, ?_⟩
  rw [pp_3 hk, hN (3 + k) (by omega), pp_o4 HP hk, pn_O_a4]
  refine nm_e ⟨pp_vo4 HP hk, nm_e ?_⟩
  refine br_f (by rw [m0]; decide) (br_t m0 ?_)
  by_cases c : M (3 + k) = -1
  · rw [show pn_fN M se p k y = y from if_pos c] at h
    exact br_t c (br_f (by rw [m0]; decide) (nm_r (nI_1 k) h))
  · refine br_f c ?_
    by_cases c2 : se (p * 4 + k) = -1
    · rw [show pn_fN M se p k y = 0 from (if_neg c).trans (if_pos c2)] at h
      exact br_t c2 (br_f (by rw [m0]; decide) (nm_r (nI_1 k) h))
    · rw [show pn_fN M se p k y = y from (if_neg c).trans (if_neg c2)] at h
      exact br_f c2 (br_f (by rw [m0]; decide) (nm_r (nI_1 k) h))
theorem ya_vN (HP : pn_P P p) (hN : ∀ f, f < 7 → mg f = M f) (h2s : 2 ≤ st p) (m0 : M 0 = 3) (h : wY_receive_140 post2 P (st p) (M 0) C T F K (pn_I st rs ti ni cr hc nk ms ei us dn sa fi) (pn_O lo hi wa ic se lc rm) w q mg ou rp ca sg 1 (pn_gN M se p (if M 1 = cr p then 1 else 0)) (nI 4)) : wpY_receive post2 (C, T, F, K, pn_I st rs ti ni cr hc nk ms ei us dn sa fi, pn_O lo hi wa ic se lc rm, w, q, mg, ou, rp, ca, sg) P := by
  have y0 := hN 0 (by decide)
  have y1 := hN 1 (by decide)
  unfold wpY_receive
  refine ya_st HP ?_
  rw [pp_i4 HP, pn_I_a4, y0, y1]
  refine br_t h2s (nm_e (br_f (by rw [m0]; decide) (br_f (by rw [m0]; decide) (br_f (by rw [m0]; decide) ⟨pp_vi4 HP, ?_⟩))))
  by_cases c : M 1 = cr p
  · rw [if_pos c] at h
    exact br_t c ⟨5, ys_vN HP hN m0 (k := 0) (by decide) (ys_vN HP hN m0 (k := 1) (by decide) (ys_vN HP hN m0 (k := 2) (by decide) (ys_vN HP hN m0 (k := 3) (by decide) h)))⟩
  · rw [if_neg c] at h
    exact br_f c ⟨5, ys_vN HP hN m0 (k := 0) (by decide) (ys_vN HP hN m0 (k := 1) (by decide) (ys_vN HP hN m0 (k := 2) (by decide) (ys_vN HP hN m0 (k := 3) (by decide) h)))⟩
theorem ys_vR (HP : pn_P P p) {n k : Nat} {y2 y : Int32} (hN : ∀ f, f < 7 → mg f = M f) (m0 : M 0 = 4) (hk : k < 4) (h : wY_receive_140 post2 P y2 (M 0) C T F K (pn_I st rs ti ni cr hc nk ms ei us dn sa fi) (pn_O lo hi wa ic se lc rm) w q mg ou rp ca sg n (pn_fR M se p k y) (nI (k + 1))) : wY_receive_140 post2 P y2 (M 0) C T F K (pn_I st rs ti ni cr hc nk ms ei us dn sa fi) (pn_O lo hi wa ic se lc rm) w q mg ou rp ca sg (n + 1) y (nI k) := by
  refine br_f (pp_g4 hk) ⟨pp_v3 hk, ?_⟩
  rw [pp_3 hk, hN (3 + k) (by omega), pp_o4 HP hk, pn_O_a4]
  refine nm_e ⟨pp_vo4 HP hk, nm_e ?_⟩
  refine br_f (by rw [m0]; decide) (br_f (by rw [m0]; decide) (br_t m0 ?_))
  by_cases c : M (3 + k) = -1
  · rw [show pn_fR M se p k y = y from if_pos c] at h
    exact br_t c (nm_r (nI_1 k) h)
  · refine br_f c ?_
    by_cases c2 : M (3 + k) = se (p * 4 + k)
    · rw [show pn_fR M se p k y = y from (if_neg c).trans (if_pos c2)] at h
      exact br_t c2 (nm_r (nI_1 k) h)
    · rw [show pn_fR M se p k y = 0 from (if_neg c).trans (if_neg c2)] at h
      exact br_f c2 (nm_r (nI_1 k) h)
theorem ya_vR (HP : pn_P P p) (hN : ∀ f, f < 7 → mg f = M f) (h2s : 2 ≤ st p) (m0 : M 0 = 4) (h : wY_receive_140 post2 P (st p) (M 0) C T F K (pn_I st rs ti ni cr hc nk ms ei us dn sa fi) (pn_O lo hi wa ic se lc rm) w q mg ou rp ca sg 1 (pn_gR M se p (if M 1 = cr p then 1 else 0)) (nI 4)) : wpY_receive post2 (C, T, F, K, pn_I st rs ti ni cr hc nk ms ei us dn sa fi, pn_O lo hi wa ic se lc rm, w, q, mg, ou, rp, ca, sg) P := by
  have y0 := hN 0 (by decide)
  have y1 := hN 1 (by decide)
  unfold wpY_receive
  refine ya_st HP ?_
  rw [pp_i4 HP, pn_I_a4, y0, y1]
  refine br_t h2s (nm_e (br_f (by rw [m0]; decide) (br_f (by rw [m0]; decide) (br_f (by rw [m0]; decide) ⟨pp_vi4 HP, ?_⟩))))
  by_cases c : M 1 = cr p
  · rw [if_pos c] at h
    exact br_t c ⟨5, ys_vR HP hN m0 (k := 0) (by decide) (ys_vR HP hN m0 (k := 1) (by decide) (ys_vR HP hN m0 (k := 2) (by decide) (ys_vR HP hN m0 (k := 3) (by decide) h)))⟩
  · rw [if_neg c] at h
    exact br_f c ⟨5, ys_vR HP hN m0 (k := 0) (by decide) (ys_vR HP hN m0 (k := 1) (by decide) (ys_vR HP hN m0 (k := 2) (by decide) (ys_vR HP hN m0 (k := 3) (by decide) h)))⟩
theorem xs_loc (HP : pn_P P p) {n k : Nat} (hk : k < 4) (h : wX_receiveAck_33 post P C T F K rc n (nI (k + 1)) st rs ti ni cr hc nk ms ei us dn sa fi lo hi wa ic se (upd lc (p * 4 + k) (se (p * 4 + k))) rm w q ih vd ro no) : wX_receiveAck_33 post P C T F K rc (n + 1) (nI k) st rs ti ni cr hc nk ms ei us dn sa fi lo hi wa ic se lc rm w q ih vd ro no := by
  refine br_f (pp_g4 hk) ?_
  rw [pp_4 HP hk]
  exact ⟨pp_v4 HP hk, pp_v4 HP hk, nm_e (nm_r (nI_1 k) h)⟩
theorem xa_loc (HP : pn_P P p) (h : wX_receiveAck_64 post P C T F K rc st rs ti ni cr hc nk ms ei us dn sa fi lo hi wa ic se (pn_4 lc (p * 4) (fun k => se (p * 4 + k))) rm w q ih vd ro no) : ∃ n, wX_receiveAck_33 post P C T F K rc n 0 st rs ti ni cr hc nk ms ei us dn sa fi lo hi wa ic se lc rm w q ih vd ro no :=
  ⟨5, xs_loc HP (k := 0) (by decide) (xs_loc HP (k := 1) (by decide) (xs_loc HP (k := 2) (by decide) (xs_loc HP (k := 3) (by decide) (br_t pp_44 h))))⟩
theorem ys_loc (HP : pn_P P p) {n k : Nat} {y3 : Int32} (hk : k < 4) (h : wY_receive_263 post2 P y3 C T F K n (nI (k + 1)) (pn_I st rs ti ni cr hc nk ms ei us dn sa fi) (pn_O lo hi wa ic se (upd lc (p * 4 + k) (se (p * 4 + k))) rm) w q mg ou rp ca sg) : wY_receive_263 post2 P y3 C T F K (n + 1) (nI k) (pn_I st rs ti ni cr hc nk ms ei us dn sa fi) (pn_O lo hi wa ic se lc rm) w q mg ou rp ca sg := by
  refine br_f (pp_g4 hk) ?_
  rw [pp_o4 HP hk, pp_o5 HP hk, pn_O_a4, pn_O_u5]
  exact ⟨pp_vo4 HP hk, pp_vo5 HP hk, nm_e (nm_r (nI_1 k) h)⟩
theorem ya_loc (HP : pn_P P p) {y3 : Int32} (h : wY_receive_307 post2 P y3 C T F K (pn_I st rs ti ni cr hc nk ms ei us dn sa fi) (pn_O lo hi wa ic se (pn_4 lc (p * 4) (fun k => se (p * 4 + k))) rm) w q mg ou rp ca sg) : ∃ n, wY_receive_263 post2 P y3 C T F K n 0 (pn_I st rs ti ni cr hc nk ms ei us dn sa fi) (pn_O lo hi wa ic se lc rm) w q mg ou rp ca sg :=
  ⟨5, ys_loc HP (k := 0) (by decide) (ys_loc HP (k := 1) (by decide) (ys_loc HP (k := 2) (by decide) (ys_loc HP (k := 3) (by decide) (br_t pp_44 h))))⟩
theorem ev_rack (HP : pn_P P p) (V : pn_V st ti lo hi ic q no) (hM : ∀ f, f < 7 → ih f = M f) (hN : ∀ f, f < 7 → mg f = M f) (h2s : 2 ≤ st p) (m02 : M 0 = 2) (H : pn_H post p ih mg (fun Q => wpY_receive Q (C, T, F, K, pn_I st rs ti ni cr hc nk ms ei us dn sa fi, pn_O lo hi wa ic se lc rm, w, q, mg, ou, rp, ca, sg) P)) : wpX_receiveAck post (C, T, F, K, rc, st, rs, ti, ni, cr, hc, nk, ms, ei, us, dn, sa, fi, lo, hi, wa, ic, se, lc, rm, w, q, ih, vd, ro, no) P := by
  obtain ⟨VS, VO, VQ, VN⟩ := V
  have hp := pp_lt HP
  have pv := pp_v HP
  obtain ⟨s, hs9, es, ht⟩ := VS p hp
  obtain ⟨z, hz8, ez⟩ := VQ p hp
  have V : pn_V st ti lo hi ic q no := ⟨VS, VO, VQ, VN⟩
  have tk : pn_tj st ti p = ti := pn_tj_k es hs9 ht
  unfold wpX_receiveAck
  refine xa_vA HP hM ?_
  by_cases c0 : pn_gA M se p (if M 1 = cr p then 1 else 0) = 0
  · refine br_t c0 ?_
    refine H _ _ _ _ _ _ _ _ _ _ _ _ _ _ _ _ _ _ _ _ _ _ _ _ _ _ _ _ _ _ ?_ (fun Q hQ => ?_)
    · rw [tk]; exact V
    rw [tk] at hQ
    refine ya_vA HP hN h2s m02 ?_
    exact br_t pp_44 (br_t c0 (hQ _ _ _ _))
  · refine br_f c0 ⟨pv, ?_⟩
    rw [pp_n HP]
    by_cases c6 : st p = 6
    · refine br_t c6 ?_
      refine xa_loc HP ?_
      unfold wX_receiveAck_64
      refine ev_ack (ou := ou) (rp := rp) (ca := ca) (sg := sg) HP V hM hN h2s ?_
      intro C1 T1 F1 K1 rc1 st1 rs1 ti1 ni1 cr1 hc1 nk1 ms1 ei1 us1 dn1 sa1 fi1 lo1 hi1 wa1 ic1 se1 lc1 rm1 w1 q1 vd1 ro1 no1 V1 hY
      refine H C1 T1 F1 K1 rc1 st1 rs1 ti1 ni1 cr1 hc1 nk1 ms1 ei1 us1 dn1 sa1 fi1 lo1 hi1 wa1 ic1 se1 lc1 rm1 w1 q1 vd1 ro1 no1 V1 (fun Q hQ => ?_)
      refine ya_vA HP hN h2s m02 ?_
      refine br_t pp_44 (br_f c0 (br_t m02 (br_t c6 (ya_loc HP ?_))))
      unfold wY_receive_307
      refine br_t m02 ?_
      exact hY _ (fun a b c d => hQ a b c d)
    · refine br_f c6 ⟨pv, ?_⟩
      by_cases c8 : st p = 8
      · refine br_t c8 ?_
        refine xa_loc HP ?_
        unfold wX_receiveAck_64
        refine ev_ack (ou := ou) (rp := rp) (ca := ca) (sg := sg) HP V hM hN h2s ?_
        intro C1 T1 F1 K1 rc1 st1 rs1 ti1 ni1 cr1 hc1 nk1 ms1 ei1 us1 dn1 sa1 fi1 lo1 hi1 wa1 ic1 se1 lc1 rm1 w1 q1 vd1 ro1 no1 V1 hY
        refine H C1 T1 F1 K1 rc1 st1 rs1 ti1 ni1 cr1 hc1 nk1 ms1 ei1 us1 dn1 sa1 fi1 lo1 hi1 wa1 ic1 se1 lc1 rm1 w1 q1 vd1 ro1 no1 V1 (fun Q hQ => ?_)
        refine ya_vA HP hN h2s m02 ?_
        refine br_t pp_44 (br_f c0 (br_t m02 (br_f c6 (br_t c8 (ya_loc HP ?_)))))
        unfold wY_receive_307
        refine br_t m02 ?_
        exact hY _ (fun a b c d => hQ a b c d)
      · refine br_f c8 ?_
        unfold wX_receiveAck_64
        refine ev_ack (ou := ou) (rp := rp) (ca := ca) (sg := sg) HP V hM hN h2s ?_
        intro C1 T1 F1 K1 rc1 st1 rs1 ti1 ni1 cr1 hc1 nk1 ms1 ei1 us1 dn1 sa1 fi1 lo1 hi1 wa1 ic1 se1 lc1 rm1 w1 q1 vd1 ro1 no1 V1 hY
        refine H C1 T1 F1 K1 rc1 st1 rs1 ti1 ni1 cr1 hc1 nk1 ms1 ei1 us1 dn1 sa1 fi1 lo1 hi1 wa1 ic1 se1 lc1 rm1 w1 q1 vd1 ro1 no1 V1 (fun Q hQ => ?_)
        refine ya_vA HP hN h2s m02 ?_
        refine br_t pp_44 (br_f c0 (br_t m02 (br_f c6 (br_f c8 ?_))))
        unfold wY_receive_307
        refine br_t m02 ?_
        exact hY _ (fun a b c d => hQ a b c d)
theorem rv_all (HP : pn_P P p) (V : pn_V st ti lo hi ic q no) (hM : ∀ f, f < 7 → ih f = M f) (hN : ∀ f, f < 7 → mg f = M f) (h2s : 2 ≤ st p) (H : pn_H post p ih mg (fun Q => wpY_receive Q (C, T, F, K, pn_I st rs ti ni cr hc nk ms ei us dn sa fi, pn_O lo hi wa ic se lc rm, w, q, mg, ou, rp, ca, sg) P)) : wpX_receive post (C, T, F, K, rc, st, rs, ti, ni, cr, hc, nk, ms, ei, us, dn, sa, fi, lo, hi, wa, ic, se, lc, rm, w, q, ih, vd, ro, no) P := by
  obtain ⟨VS, VO, VQ, VN⟩ := V
  have hp := pp_lt HP
  have pv := pp_v HP
  obtain ⟨s, hs9, es, ht⟩ := VS p hp
  obtain ⟨z, hz8, ez⟩ := VQ p hp
  have V : pn_V st ti lo hi ic q no := ⟨VS, VO, VQ, VN⟩
  have tk : pn_tj st ti p = ti := pn_tj_k es hs9 ht
  have x0 := hM 0 (by decide)
  have y0 := hN 0 (by decide)
  have hh : M 0 < 1 ∨ 11 < M 0 ∨ M 0 = 1 ∨ M 0 = 2 ∨ M 0 = 3 ∨ M 0 = 4 ∨ M 0 = 5 ∨ M 0 = 6 ∨ M 0 = 7 ∨ M 0 = 8 ∨ M 0 = 9 ∨ M 0 = 10 ∨ M 0 = 11 := pn_codes (M 0)
  unfold wpX_receive
  rcases hh with c | c | c | c | c | c | c | c | c | c | c | c | c
  · refine nm_e (br_t (by rw [x0]; exact c) ?_)
    unfold wX_receive_144
    refine ev_scj (ou := ou) (rp := rp) (ca := ca) (sg := sg) HP V hM hN ?_
    intro C1 T1 F1 K1 rc1 st1 rs1 ti1 ni1 cr1 hc1 nk1 ms1 ei1 us1 dn1 sa1 fi1 lo1 hi1 wa1 ic1 se1 lc1 rm1 w1 q1 vd1 ro1 no1 V1 hY
    refine H C1 T1 F1 K1 rc1 st1 rs1 ti1 ni1 cr1 hc1 nk1 ms1 ei1 us1 dn1 sa1 fi1 lo1 hi1 wa1 ic1 se1 lc1 rm1 w1 q1 vd1 ro1 no1 V1 (fun Q hQ => ?_)
    unfold wpY_receive
    refine ya_st HP ?_
    rw [y0]
    refine br_t h2s (nm_e (br_f (by intro z; rw [z] at c; revert c; decide) (br_t (pn_lt12 c) ?_)))
    unfold wY_receive_328
    refine br_f (by intro z; rw [z] at c; revert c; decide) (br_f (by intro z; rw [z] at c; revert c; decide) (br_f (by intro z; rw [z] at c; revert c; decide) (br_f (by intro z; rw [z] at c; revert c; decide) (br_f (by intro z; rw [z] at c; revert c; decide) (br_f (by intro z; rw [z] at c; revert c; decide) ?_)))))
    exact hY _ (fun a b c d => hQ a b c d)
  · refine nm_e (br_f (by rw [x0]; exact pn_gt1 c) (br_t (by rw [x0]; exact c) ?_))
    unfold wX_receive_144
    refine ev_scj (ou := ou) (rp := rp) (ca := ca) (sg := sg) HP V hM hN ?_
    intro C1 T1 F1 K1 rc1 st1 rs1 ti1 ni1 cr1 hc1 nk1 ms1 ei1 us1 dn1 sa1 fi1 lo1 hi1 wa1 ic1 se1 lc1 rm1 w1 q1 vd1 ro1 no1 V1 hY
    refine H C1 T1 F1 K1 rc1 st1 rs1 ti1 ni1 cr1 hc1 nk1 ms1 ei1 us1 dn1 sa1 fi1 lo1 hi1 wa1 ic1 se1 lc1 rm1 w1 q1 vd1 ro1 no1 V1 (fun Q hQ => ?_)
    unfold wpY_receive
    refine ya_st HP ?_
    rw [y0]
    refine br_t h2s (nm_e (br_f (by intro z; rw [z] at c; revert c; decide) (br_f (pn_gt2 c) (br_t (pn_gt4 c) ?_))))
    unfold wY_receive_328
    refine br_f (by intro z; rw [z] at c; revert c; decide) (br_f (by intro z; rw [z] at c; revert c; decide) (br_f (by intro z; rw [z] at c; revert c; decide) (br_f (by intro z; rw [z] at c; revert c; decide) (br_f (by intro z; rw [z] at c; revert c; decide) (br_f (by intro z; rw [z] at c; revert c; decide) ?_)))))
    exact hY _ (fun a b c d => hQ a b c d)
  · refine nm_e ?_
    rw [x0, c]
    refine (br_f (by decide) (br_f (by decide) (br_t (by decide) ?_)))
    refine ev_req (ou := ou) (rp := rp) (ca := ca) (sg := sg) HP V hM hN h2s c ?_
    intro C1 T1 F1 K1 rc1 st1 rs1 ti1 ni1 cr1 hc1 nk1 ms1 ei1 us1 dn1 sa1 fi1 lo1 hi1 wa1 ic1 se1 lc1 rm1 w1 q1 vd1 ro1 no1 V1 hY
    exact H C1 T1 F1 K1 rc1 st1 rs1 ti1 ni1 cr1 hc1 nk1 ms1 ei1 us1 dn1 sa1 fi1 lo1 hi1 wa1 ic1 se1 lc1 rm1 w1 q1 vd1 ro1 no1 V1 hY
  · refine nm_e ?_
    rw [x0, c]
    refine (br_f (by decide) (br_f (by decide) (br_f (by decide) (br_t (by decide) ?_))))
    refine ev_rack (ou := ou) (rp := rp) (ca := ca) (sg := sg) HP V hM hN h2s c ?_
    intro C1 T1 F1 K1 rc1 st1 rs1 ti1 ni1 cr1 hc1 nk1 ms1 ei1 us1 dn1 sa1 fi1 lo1 hi1 wa1 ic1 se1 lc1 rm1 w1 q1 vd1 ro1 no1 V1 hY
    exact H C1 T1 F1 K1 rc1 st1 rs1 ti1 ni1 cr1 hc1 nk1 ms1 ei1 us1 dn1 sa1 fi1 lo1 hi1 wa1 ic1 se1 lc1 rm1 w1 q1 vd1 ro1 no1 V1 hY
  · refine nm_e ?_
    rw [x0, c]
    refine (br_f (by decide) (br_f (by decide) (br_f (by decide) (br_f (by decide) (br_t (by decide) ?_)))))
    refine xa_vN HP hM ?_
    by_cases c0 : pn_gN M se p (if M 1 = cr p then 1 else 0) = 0
    · refine br_t c0 ?_
      refine H _ _ _ _ _ _ _ _ _ _ _ _ _ _ _ _ _ _ _ _ _ _ _ _ _ _ _ _ _ _ ?_ (fun Q hQ => ?_)
      · rw [tk]; exact V
      rw [tk] at hQ
      refine ya_vN HP hN h2s c ?_
      exact br_t pp_44 (br_t c0 (hQ _ _ _ _))
    · refine br_f c0 ?_
      refine ev_ref (ou := ou) (rp := rp) (ca := ca) (sg := sg) HP V hM hN h2s (Or.inl c) ?_
      intro C1 T1 F1 K1 rc1 st1 rs1 ti1 ni1 cr1 hc1 nk1 ms1 ei1 us1 dn1 sa1 fi1 lo1 hi1 wa1 ic1 se1 lc1 rm1 w1 q1 vd1 ro1 no1 V1 hY
      refine H C1 T1 F1 K1 rc1 st1 rs1 ti1 ni1 cr1 hc1 nk1 ms1 ei1 us1 dn1 sa1 fi1 lo1 hi1 wa1 ic1 se1 lc1 rm1 w1 q1 vd1 ro1 no1 V1 (fun Q hQ => ?_)
      refine ya_vN HP hN h2s c ?_
      refine br_t pp_44 (br_f c0 (br_f (by rw [c]; decide) ?_))
      unfold wY_receive_307
      refine br_f (by rw [c]; decide) ?_
      exact hY _ (fun a b c d => hQ a b c d)
  · refine nm_e ?_
    rw [x0, c]
    refine (br_f (by decide) (br_f (by decide) (br_f (by decide) (br_f (by decide) (br_f (by decide) (br_t (by decide) ?_))))))
    refine xa_vR HP hM ?_
    by_cases c0 : pn_gR M se p (if M 1 = cr p then 1 else 0) = 0
    · refine br_t c0 ?_
      refine H _ _ _ _ _ _ _ _ _ _ _ _ _ _ _ _ _ _ _ _ _ _ _ _ _ _ _ _ _ _ ?_ (fun Q hQ => ?_)
      · rw [tk]; exact V
      rw [tk] at hQ
      refine ya_vR HP hN h2s c ?_
      exact br_t pp_44 (br_t c0 (hQ _ _ _ _))
    · refine br_f c0 ?_
      refine ev_ref (ou := ou) (rp := rp) (ca := ca) (sg := sg) HP V hM hN h2s (Or.inr c) ?_
      intro C1 T1 F1 K1 rc1 st1 rs1 ti1 ni1 cr1 hc1 nk1 ms1 ei1 us1 dn1 sa1 fi1 lo1 hi1 wa1 ic1 se1 lc1 rm1 w1 q1 vd1 ro1 no1 V1 hY
      refine H C1 T1 F1 K1 rc1 st1 rs1 ti1 ni1 cr1 hc1 nk1 ms1 ei1 us1 dn1 sa1 fi1 lo1 hi1 wa1 ic1 se1 lc1 rm1 w1 q1 vd1 ro1 no1 V1 (fun Q hQ => ?_)
      refine ya_vR HP hN h2s c ?_
      refine br_t pp_44 (br_f c0 (br_f (by rw [c]; decide) ?_))
      unfold wY_receive_307
      refine br_f (by rw [c]; decide) ?_
      exact hY _ (fun a b c d => hQ a b c d)
  · refine nm_e ?_
    rw [x0, c]
    refine (br_f (by decide) (br_f (by decide) (br_f (by decide) (br_f (by decide) (br_f (by decide) (br_f (by decide) (br_t (by decide) ?_)))))))
    refine ev_rtr (ou := ou) (rp := rp) (ca := ca) (sg := sg) HP V hM hN h2s ?_
    intro C1 T1 F1 K1 rc1 st1 rs1 ti1 ni1 cr1 hc1 nk1 ms1 ei1 us1 dn1 sa1 fi1 lo1 hi1 wa1 ic1 se1 lc1 rm1 w1 q1 vd1 ro1 no1 V1 hY
    refine H C1 T1 F1 K1 rc1 st1 rs1 ti1 ni1 cr1 hc1 nk1 ms1 ei1 us1 dn1 sa1 fi1 lo1 hi1 wa1 ic1 se1 lc1 rm1 w1 q1 vd1 ro1 no1 V1 (fun Q hQ => ?_)
    unfold wpY_receive
    refine ya_st HP ?_
    rw [y0, c]
    refine br_t h2s (nm_e (br_f (by decide) (br_f (by decide) (br_t (by decide) (br_t (by decide) ?_)))))
    exact hY _ (fun a b c d => hQ a b c d)
  · refine nm_e ?_
    rw [x0, c]
    refine (br_f (by decide) (br_f (by decide) (br_f (by decide) (br_f (by decide) (br_f (by decide) (br_f (by decide) (br_f (by decide) (br_t (by decide) ?_))))))))
    refine ev_rta (ou := ou) (rp := rp) (ca := ca) (sg := sg) HP V hM hN h2s ?_
    intro C1 T1 F1 K1 rc1 st1 rs1 ti1 ni1 cr1 hc1 nk1 ms1 ei1 us1 dn1 sa1 fi1 lo1 hi1 wa1 ic1 se1 lc1 rm1 w1 q1 vd1 ro1 no1 V1 hY
    refine H C1 T1 F1 K1 rc1 st1 rs1 ti1 ni1 cr1 hc1 nk1 ms1 ei1 us1 dn1 sa1 fi1 lo1 hi1 wa1 ic1 se1 lc1 rm1 w1 q1 vd1 ro1 no1 V1 (fun Q hQ => ?_)
    unfold wpY_receive
    refine ya_st HP ?_
    rw [y0, c]
    refine br_t h2s (nm_e (br_f (by decide) (br_f (by decide) (br_t (by decide) (br_f (by decide) (br_t (by decide) ?_))))))
    exact hY _ (fun a b c d => hQ a b c d)
  · refine nm_e ?_
    rw [x0, c]
    refine (br_f (by decide) (br_f (by decide) (br_f (by decide) (br_f (by decide) (br_f (by decide) (br_f (by decide) (br_f (by decide) (br_f (by decide) (br_t (by decide) ?_)))))))))
    have x2 := hM 2 (by decide)
    have y2 := hN 2 (by decide)
    by_cases b1 : M 2 < 1
    · unfold wpX_onCodeReject
      refine nm_e (br_t (by rw [x2]; exact b1) ?_)
      refine ev_rxp (mg := mg) (ou := ou) (rp := rp) (ca := ca) (sg := sg) HP V ?_
      intro C1 T1 F1 K1 rc1 st1 rs1 ti1 ni1 cr1 hc1 nk1 ms1 ei1 us1 dn1 sa1 fi1 lo1 hi1 wa1 ic1 se1 lc1 rm1 w1 q1 vd1 ro1 no1 V1 hY
      refine H C1 T1 F1 K1 rc1 st1 rs1 ti1 ni1 cr1 hc1 nk1 ms1 ei1 us1 dn1 sa1 fi1 lo1 hi1 wa1 ic1 se1 lc1 rm1 w1 q1 vd1 ro1 no1 V1 (fun Q hQ => ?_)
      unfold wpY_receive
      refine ya_st HP ?_
      rw [y0, c]
      refine br_t h2s (nm_e (br_f (by decide) (br_f (by decide) (br_t (by decide) (br_f (by decide) (br_f (by decide) (br_t (by decide) (br_t (by rw [y2]; exact b1) ?_))))))))
      exact hY _ (fun a b c d => hQ a b c d)
    · by_cases b7 : M 2 ≤ 7
      · refine ev_rxj (ou := ou) (rp := rp) (ca := ca) (sg := sg) HP V hM hN h2s b1 b7 ?_
        intro C1 T1 F1 K1 rc1 st1 rs1 ti1 ni1 cr1 hc1 nk1 ms1 ei1 us1 dn1 sa1 fi1 lo1 hi1 wa1 ic1 se1 lc1 rm1 w1 q1 vd1 ro1 no1 V1 hY
        refine H C1 T1 F1 K1 rc1 st1 rs1 ti1 ni1 cr1 hc1 nk1 ms1 ei1 us1 dn1 sa1 fi1 lo1 hi1 wa1 ic1 se1 lc1 rm1 w1 q1 vd1 ro1 no1 V1 (fun Q hQ => ?_)
        unfold wpY_receive
        refine ya_st HP ?_
        rw [y0, c]
        refine br_t h2s (nm_e (br_f (by decide) (br_f (by decide) (br_t (by decide) (br_f (by decide) (br_f (by decide) (br_t (by decide) (br_f (by rw [y2]; exact b1) (br_f (by rw [y2]; exact Int32.not_lt.mpr b7) ?_)))))))))
        exact hY _ (fun a b c d => hQ a b c d)
      · unfold wpX_onCodeReject
        refine nm_e (br_f (by rw [x2]; exact b1) (br_f (by rw [x2]; exact b7) ?_))
        refine ev_rxp (mg := mg) (ou := ou) (rp := rp) (ca := ca) (sg := sg) HP V ?_
        intro C1 T1 F1 K1 rc1 st1 rs1 ti1 ni1 cr1 hc1 nk1 ms1 ei1 us1 dn1 sa1 fi1 lo1 hi1 wa1 ic1 se1 lc1 rm1 w1 q1 vd1 ro1 no1 V1 hY
        refine H C1 T1 F1 K1 rc1 st1 rs1 ti1 ni1 cr1 hc1 nk1 ms1 ei1 us1 dn1 sa1 fi1 lo1 hi1 wa1 ic1 se1 lc1 rm1 w1 q1 vd1 ro1 no1 V1 (fun Q hQ => ?_)
        unfold wpY_receive
        refine ya_st HP ?_
        rw [y0, c]
        refine br_t h2s (nm_e (br_f (by decide) (br_f (by decide) (br_t (by decide) (br_f (by decide) (br_f (by decide) (br_t (by decide) (br_f (by rw [y2]; exact b1) (br_t (by rw [y2]; exact Int32.not_le.mp b7) ?_)))))))))
        exact hY _ (fun a b c d => hQ a b c d)
  · refine nm_e ?_
    rw [x0, c]
    refine (br_f (by decide) (br_f (by decide) (br_f (by decide) (br_f (by decide) (br_f (by decide) (br_f (by decide) (br_f (by decide) (br_f (by decide) (br_f (by decide) (br_t (by decide) ?_))))))))))
    unfold wX_receive_144
    refine ev_scj (ou := ou) (rp := rp) (ca := ca) (sg := sg) HP V hM hN ?_
    intro C1 T1 F1 K1 rc1 st1 rs1 ti1 ni1 cr1 hc1 nk1 ms1 ei1 us1 dn1 sa1 fi1 lo1 hi1 wa1 ic1 se1 lc1 rm1 w1 q1 vd1 ro1 no1 V1 hY
    refine H C1 T1 F1 K1 rc1 st1 rs1 ti1 ni1 cr1 hc1 nk1 ms1 ei1 us1 dn1 sa1 fi1 lo1 hi1 wa1 ic1 se1 lc1 rm1 w1 q1 vd1 ro1 no1 V1 (fun Q hQ => ?_)
    unfold wpY_receive
    refine ya_st HP ?_
    rw [y0, c]
    refine br_t h2s (nm_e (br_f (by decide) (br_f (by decide) (br_t (by decide) (br_f (by decide) (br_f (by decide) (br_f (by decide) (br_f (by decide) (br_f (by decide) (br_f (by decide) ?_))))))))))
    exact hY _ (fun a b c d => hQ a b c d)
  · refine nm_e ?_
    rw [x0, c]
    refine (br_f (by decide) (br_f (by decide) (br_f (by decide) (br_f (by decide) (br_f (by decide) (br_f (by decide) (br_f (by decide) (br_f (by decide) (br_f (by decide) (br_f (by decide) (br_t (by decide) ?_)))))))))))
    unfold wX_receive_136
    refine ev_ka (ou := ou) (rp := rp) (ca := ca) (sg := sg) HP V hM hN (Or.inl c) ?_
    intro C1 T1 F1 K1 rc1 st1 rs1 ti1 ni1 cr1 hc1 nk1 ms1 ei1 us1 dn1 sa1 fi1 lo1 hi1 wa1 ic1 se1 lc1 rm1 w1 q1 vd1 ro1 no1 V1 hY
    refine H C1 T1 F1 K1 rc1 st1 rs1 ti1 ni1 cr1 hc1 nk1 ms1 ei1 us1 dn1 sa1 fi1 lo1 hi1 wa1 ic1 se1 lc1 rm1 w1 q1 vd1 ro1 no1 V1 (fun Q hQ => ?_)
    have hZ := hY Q hQ
    unfold wpY_receive
    refine ya_st HP ?_
    rw [y0, c]
    rw [c] at hZ
    exact br_t h2s (nm_e (br_f (by decide) (br_f (by decide) (br_t (by decide) (br_f (by decide) (br_f (by decide) (br_f (by decide) (br_t (by decide) hZ))))))))
  · refine nm_e ?_
    rw [x0, c]
    refine (br_f (by decide) (br_f (by decide) (br_f (by decide) (br_f (by decide) (br_f (by decide) (br_f (by decide) (br_f (by decide) (br_f (by decide) (br_f (by decide) (br_f (by decide) (br_f (by decide) (br_t (by decide) ?_))))))))))))
    unfold wX_receive_136
    refine ev_ka (ou := ou) (rp := rp) (ca := ca) (sg := sg) HP V hM hN (Or.inr (Or.inl c)) ?_
    intro C1 T1 F1 K1 rc1 st1 rs1 ti1 ni1 cr1 hc1 nk1 ms1 ei1 us1 dn1 sa1 fi1 lo1 hi1 wa1 ic1 se1 lc1 rm1 w1 q1 vd1 ro1 no1 V1 hY
    refine H C1 T1 F1 K1 rc1 st1 rs1 ti1 ni1 cr1 hc1 nk1 ms1 ei1 us1 dn1 sa1 fi1 lo1 hi1 wa1 ic1 se1 lc1 rm1 w1 q1 vd1 ro1 no1 V1 (fun Q hQ => ?_)
    have hZ := hY Q hQ
    unfold wpY_receive
    refine ya_st HP ?_
    rw [y0, c]
    rw [c] at hZ
    exact br_t h2s (nm_e (br_f (by decide) (br_f (by decide) (br_t (by decide) (br_f (by decide) (br_f (by decide) (br_f (by decide) (br_f (by decide) (br_t (by decide) hZ)))))))))
  · refine nm_e ?_
    rw [x0, c]
    refine (br_f (by decide) (br_f (by decide) (br_f (by decide) (br_f (by decide) (br_f (by decide) (br_f (by decide) (br_f (by decide) (br_f (by decide) (br_f (by decide) (br_f (by decide) (br_f (by decide) (br_f (by decide) (br_t (by decide) ?_)))))))))))))
    unfold wX_receive_136
    refine ev_ka (ou := ou) (rp := rp) (ca := ca) (sg := sg) HP V hM hN (Or.inr (Or.inr c)) ?_
    intro C1 T1 F1 K1 rc1 st1 rs1 ti1 ni1 cr1 hc1 nk1 ms1 ei1 us1 dn1 sa1 fi1 lo1 hi1 wa1 ic1 se1 lc1 rm1 w1 q1 vd1 ro1 no1 V1 hY
    refine H C1 T1 F1 K1 rc1 st1 rs1 ti1 ni1 cr1 hc1 nk1 ms1 ei1 us1 dn1 sa1 fi1 lo1 hi1 wa1 ic1 se1 lc1 rm1 w1 q1 vd1 ro1 no1 V1 (fun Q hQ => ?_)
    have hZ := hY Q hQ
    unfold wpY_receive
    refine ya_st HP ?_
    rw [y0, c]
    rw [c] at hZ
    exact br_t h2s (nm_e (br_f (by decide) (br_f (by decide) (br_t (by decide) (br_f (by decide) (br_f (by decide) (br_f (by decide) (br_f (by decide) (br_f (by decide) (br_t (by decide) hZ))))))))))
end RV
end
section
theorem pp_ge0 {P : Int32} {p : Nat} (H : pn_P P p) : ¬ P < 0 := by
  rcases H with ⟨rfl, rfl⟩ | ⟨rfl, rfl⟩ <;> decide
theorem pp_le1 {P : Int32} {p : Nat} (H : pn_P P p) : P ≤ 1 := by
  rcases H with ⟨rfl, rfl⟩ | ⟨rfl, rfl⟩ <;> decide
theorem pp_ng1 {P : Int32} {p : Nat} (H : pn_P P p) : ¬ 1 < P := by
  rcases H with ⟨rfl, rfl⟩ | ⟨rfl, rfl⟩ <;> decide
theorem pp_n2 {P : Int32} {p : Nat} (H : pn_P P p) : ¬ 2 ≤ P := by
  rcases H with ⟨rfl, rfl⟩ | ⟨rfl, rfl⟩ <;> decide
section TK
variable {C T F K rc : Int32} {st rs ti ni cr hc nk ms ei us dn sa fi lo hi wa ic se lc rm w q ih vd ro no mg ou rp ca sg : Nat → Int32} {P : Int32} {p : Nat}
variable {post : SX → Prop} {N : Int32} {k n : Nat}
theorem tk_one {C0 T0 F0 K0 rc0 : Int32} {st0 rs0 ti0 ni0 cr0 hc0 nk0 ms0 ei0 us0 dn0 sa0 fi0 lo0 hi0 wa0 ic0 se0 lc0 rm0 w0 q0 vd0 ro0 no0 : Nat → Int32} (HP : pn_P P p) (eN : P + 1 = N) (V : pn_V st0 ti0 lo0 hi0 ic0 q0 no0) (H : ∀ (C T F K rc : Int32) (st rs ti ni cr hc nk ms ei us dn sa fi lo hi wa ic se lc rm w q vd ro no : Nat → Int32), pn_V st ti lo hi ic q no → (∀ (Q : SY → Prop) (m : Nat), (∀ ou rp ca sg : Nat → Int32, wY_tick_2 Q m N C T F K (pn_I st rs ti ni cr hc nk ms ei us dn sa fi) (pn_O lo hi wa ic se lc rm) w q mg ou rp ca sg) → ∀ ou rp ca sg : Nat → Int32, wY_tick_2 Q (m + 1) P C0 T0 F0 K0 (pn_I st0 rs0 ti0 ni0 cr0 hc0 nk0 ms0 ei0 us0 dn0 sa0 fi0) (pn_O lo0 hi0 wa0 ic0 se0 lc0 rm0) w0 q0 mg ou rp ca sg) → wX_tick_2 post n N C T F K rc st rs ti ni cr hc nk ms ei us dn sa fi lo hi wa ic se lc rm w q ih vd ro no) : wX_tick_2 post (n + 1) P C0 T0 F0 K0 rc0 st0 rs0 ti0 ni0 cr0 hc0 nk0 ms0 ei0 us0 dn0 sa0 fi0 lo0 hi0 wa0 ic0 se0 lc0 rm0 w0 q0 ih vd0 ro0 no0 := by
  obtain ⟨VS, VO, VQ, VN⟩ := V
  have hp := pp_lt HP
  have pv := pp_v HP
  obtain ⟨s, hs9, es, ht⟩ := VS p hp
  have V : pn_V st0 ti0 lo0 hi0 ic0 q0 no0 := ⟨VS, VO, VQ, VN⟩
  refine br_f (pp_n2 HP) ?_
  by_cases h4 : st0 p < 4
  · refine xa_timed0 HP (Or.inl h4) (br_t rfl (nm_r eN ?_))
    refine H _ _ _ _ _ _ _ _ _ _ _ _ _ _ _ _ _ _ _ _ _ _ _ _ _ _ _ _ _ _ V (fun Q m h ou9 rp9 ca9 sg9 => ?_)
    refine br_f (pp_n2 HP) (ya_st HP ?_)
    exact br_t h4 (nm_r eN (h _ _ _ _))
  by_cases h8 : 8 < st0 p
  · refine xa_timed0 HP (Or.inr ⟨h4, h8⟩) (br_t rfl (nm_r eN ?_))
    refine H _ _ _ _ _ _ _ _ _ _ _ _ _ _ _ _ _ _ _ _ _ _ _ _ _ _ _ _ _ _ V (fun Q m h ou9 rp9 ca9 sg9 => ?_)
    refine br_f (pp_n2 HP) (ya_st HP ?_)
    exact br_f h4 (br_t h8 (nm_r eN (h _ _ _ _)))
  refine xa_timed1 HP h4 h8 (br_f (by decide) ⟨pv, ?_⟩)
  rw [pp_n HP]
  by_cases t0 : ti0 p ≤ 0
  · refine br_t t0 (nm_r eN ?_)
    refine H _ _ _ _ _ _ _ _ _ _ _ _ _ _ _ _ _ _ _ _ _ _ _ _ _ _ _ _ _ _ V (fun Q m h ou9 rp9 ca9 sg9 => ?_)
    refine br_f (pp_n2 HP) (ya_st HP (br_f h4 (br_f h8 ⟨pp_vi2 HP, ?_⟩)))
    rw [pp_i2 HP, pn_I_a2]
    exact br_t t0 (nm_r eN (h _ _ _ _))
  refine br_f t0 ⟨pv, pv, nm_e ⟨pv, ?_⟩⟩
  rw [pn_at]
  have hon : ¬ (s < 4 ∨ 8 < s) := by
    intro zz
    rcases zz with zz | zz
    · exact h4 (by rw [es]; exact nI_lt (b := 4) zz (by decide))
    · exact h8 (by rw [es]; exact nI_lt (a := 8) zz (by omega))
  have V2 : pn_V st0 (upd ti0 p (ti0 p - 1)) lo0 hi0 ic0 q0 no0 := ⟨pn_VS_k VS hp es hs9 (fun j ej => pn_ne _ _ ej) (fun zz => absurd zz hon), VO, VQ, VN⟩
  by_cases tz : ti0 p - 1 = 0
  · refine br_t tz ?_
    by_cases hr : 0 < rs0 p
    · refine ev_top (mg := mg) HP V2 hr h4 h8 ?_
      intro C1 T1 F1 K1 rc1 st1 rs1 ti1 ni1 cr1 hc1 nk1 ms1 ei1 us1 dn1 sa1 fi1 lo1 hi1 wa1 ic1 se1 lc1 rm1 w1 q1 vd1 ro1 no1 V1 hY
      refine xa_setl HP (nm_r eN ?_)
      refine H C1 T1 F1 K1 rc1 st1 rs1 (pn_tj st1 ti1 p) ni1 cr1 hc1 nk1 ms1 ei1 us1 dn1 sa1 fi1 lo1 hi1 wa1 ic1 se1 lc1 rm1 w1 q1 vd1 ro1 no1 V1 (fun Q m h ou9 rp9 ca9 sg9 => ?_)
      refine br_f (pp_n2 HP) (ya_st HP (br_f h4 (br_f h8 ⟨pp_vi2 HP, ?_⟩)))
      rw [pp_i2 HP, pn_I_a2, pn_I_u2]
      refine br_f t0 ⟨pp_vi2 HP, pp_vi2 HP, nm_e ⟨pp_vi2 HP, ?_⟩⟩
      rw [pn_I_a2, pn_at]
      rw [pp_i1 HP, pn_I_a1]
      refine br_t tz ⟨pp_vi1 HP, br_f (Int32.not_le.mpr hr) ?_⟩
      refine hY _ (fun a b c d => ?_) _ _ _ _
      exact nm_r eN (h a b c d)
    · refine ev_tom (mg := mg) HP V2 hr h4 h8 ?_
      intro C1 T1 F1 K1 rc1 st1 rs1 ti1 ni1 cr1 hc1 nk1 ms1 ei1 us1 dn1 sa1 fi1 lo1 hi1 wa1 ic1 se1 lc1 rm1 w1 q1 vd1 ro1 no1 V1 hY
      refine xa_setl HP (nm_r eN ?_)
      refine H C1 T1 F1 K1 rc1 st1 rs1 (pn_tj st1 ti1 p) ni1 cr1 hc1 nk1 ms1 ei1 us1 dn1 sa1 fi1 lo1 hi1 wa1 ic1 se1 lc1 rm1 w1 q1 vd1 ro1 no1 V1 (fun Q m h ou9 rp9 ca9 sg9 => ?_)
      refine br_f (pp_n2 HP) (ya_st HP (br_f h4 (br_f h8 ⟨pp_vi2 HP, ?_⟩)))
      rw [pp_i2 HP, pn_I_a2, pn_I_u2]
      refine br_f t0 ⟨pp_vi2 HP, pp_vi2 HP, nm_e ⟨pp_vi2 HP, ?_⟩⟩
      rw [pn_I_a2, pn_at]
      rw [pp_i1 HP, pn_I_a1]
      refine br_t tz ⟨pp_vi1 HP, br_t (Int32.not_lt.mp hr) ?_⟩
      refine hY _ (fun a b c d => ?_) _ _ _ _
      exact nm_r eN (h a b c d)
  · refine br_f tz (nm_r eN ?_)
    refine H _ _ _ _ _ _ _ _ _ _ _ _ _ _ _ _ _ _ _ _ _ _ _ _ _ _ _ _ _ _ V2 (fun Q m h ou9 rp9 ca9 sg9 => ?_)
    refine br_f (pp_n2 HP) (ya_st HP (br_f h4 (br_f h8 ⟨pp_vi2 HP, ?_⟩)))
    rw [pp_i2 HP, pn_I_a2, pn_I_u2]
    refine br_f t0 ⟨pp_vi2 HP, pp_vi2 HP, nm_e ⟨pp_vi2 HP, ?_⟩⟩
    rw [pn_I_a2, pn_at]
    exact br_f tz (nm_r eN (h _ _ _ _))
theorem op_tick (V : pn_V st ti lo hi ic q no) : wpX_tick (fun u' => wpY_tick (fun v' => i_Rel k u' v') (C, T, F, K, pn_I st rs ti ni cr hc nk ms ei us dn sa fi, pn_O lo hi wa ic se lc rm, w, q, mg, ou, rp, ca, sg)) (C, T, F, K, rc, st, rs, ti, ni, cr, hc, nk, ms, ei, us, dn, sa, fi, lo, hi, wa, ic, se, lc, rm, w, q, ih, vd, ro, no) := by
  unfold wpX_tick
  refine ⟨3, tk_one (mg := mg) pp_0 (N := 1) (by decide) V ?_⟩
  intro C1 T1 F1 K1 rc1 st1 rs1 ti1 ni1 cr1 hc1 nk1 ms1 ei1 us1 dn1 sa1 fi1 lo1 hi1 wa1 ic1 se1 lc1 rm1 w1 q1 vd1 ro1 no1 V1 h1
  refine tk_one (mg := mg) pp_1 (N := 2) (by decide) V1 ?_
  intro C2 T2 F2 K2 rc2 st2 rs2 ti2 ni2 cr2 hc2 nk2 ms2 ei2 us2 dn2 sa2 fi2 lo2 hi2 wa2 ic2 se2 lc2 rm2 w2 q2 vd2 ro2 no2 V2 h2
  refine br_t (by decide) ?_
  unfold wpY_tick
  refine ⟨3, h1 _ 2 (fun a b c d => h2 _ 1 (fun a2 b2 c2 d2 => br_t (by decide) (pr_mk V2)) a b c d) _ _ _ _⟩
end TK
section UD
variable {C T F K rc : Int32} {st rs ti ni cr hc nk ms ei us dn sa fi lo hi wa ic se lc rm w q ih vd ro no mg ou rp ca sg : Nat → Int32} {P : Int32} {p : Nat}
variable {post : SX → Prop} {k : Nat}
theorem xo_up0 (HP : pn_P P p) (e : st p = 0) (h : post (C, T, F, K, rc, upd st p 2, rs, ti, ni, cr, hc, nk, ms, ei, us, dn, sa, fi, lo, hi, wa, ic, se, lc, rm, w, q, ih, vd, ro, no)) : wpX_onUp post (C, T, F, K, rc, st, rs, ti, ni, cr, hc, nk, ms, ei, us, dn, sa, fi, lo, hi, wa, ic, se, lc, rm, w, q, ih, vd, ro, no) P := by
  have pv := pp_v HP
  unfold wpX_onUp
  refine ⟨pv, ?_⟩
  rw [pp_n HP]
  exact br_t e ⟨pv, nm_e h⟩
theorem xo_up1 (HP : pn_P P p) (e : st p = 1) {s : Nat} (hs : q p = nI s) (hs8 : s ≤ 8) (h : post (C, T, F, K, rc, upd st p 6, pn_sp (upd rs p C) p, upd ti p K, upd ni p (ni p + 1), upd cr p (ni p + 1), hc, upd nk p 0, ms, ei, us, dn, sa, fi, lo, hi, pn_4 wa (p * 4) (pn_hi hi p), pn_4 ic (p * 4) (pn_in lo hi p), pn_4 se (p * 4) (pn_g (pn_4 ic (p * 4) (pn_in lo hi p)) (pn_4 wa (p * 4) (pn_hi hi p)) p), lc, rm, pn_aw w q p 1 (ni p + 1) 0 (pn_g (pn_4 ic (p * 4) (pn_in lo hi p)) (pn_4 wa (p * 4) (pn_hi hi p)) p 0) (pn_g (pn_4 ic (p * 4) (pn_in lo hi p)) (pn_4 wa (p * 4) (pn_hi hi p)) p 1) (pn_g (pn_4 ic (p * 4) (pn_in lo hi p)) (pn_4 wa (p * 4) (pn_hi hi p)) p 2) (pn_g (pn_4 ic (p * 4) (pn_in lo hi p)) (pn_4 wa (p * 4) (pn_hi hi p)) p 3), pn_aq q p, ih, vd, ro, no)) : wpX_onUp post (C, T, F, K, rc, st, rs, ti, ni, cr, hc, nk, ms, ei, us, dn, sa, fi, lo, hi, wa, ic, se, lc, rm, w, q, ih, vd, ro, no) P := by
  have pv := pp_v HP
  unfold wpX_onUp
  refine ⟨pv, ?_⟩
  rw [pp_n HP]
  exact br_f (by rw [e]; decide) ⟨pv, br_t e (xa_breq HP hs hs8 h)⟩
theorem op_up (HP : pn_P P p) (V : pn_V st ti lo hi ic q no) : wpX_up (fun r u' => wpY_up (fun r' v' => r' = r ∧ i_Rel k u' v') (C, T, F, K, pn_I st rs ti ni cr hc nk ms ei us dn sa fi, pn_O lo hi wa ic se lc rm, w, q, mg, ou, rp, ca, sg) P) (C, T, F, K, rc, st, rs, ti, ni, cr, hc, nk, ms, ei, us, dn, sa, fi, lo, hi, wa, ic, se, lc, rm, w, q, ih, vd, ro, no) P := by
  obtain ⟨VS, VO, VQ, VN⟩ := V
  have hp := pp_lt HP
  have pv := pp_v HP
  obtain ⟨s, hs9, es, ht⟩ := VS p hp
  obtain ⟨z, hz8, ez⟩ := VQ p hp
  have V : pn_V st ti lo hi ic q no := ⟨VS, VO, VQ, VN⟩
  have g0 := pp_ge0 HP
  have g1 := pp_le1 HP
  have g2 := pp_ng1 HP
  unfold wpX_up
  refine xa_end1 HP (br_f (by decide) ⟨pv, ?_⟩)
  rw [pp_n HP]
  have hcase : s = 0 ∨ s = 1 ∨ 2 ≤ s := by omega
  rcases hcase with rfl | rfl | hs2
  · have e : st p = 0 := es
    refine br_t (by rw [e]; decide) (xo_up0 HP e (xa_setl0 HP (by rw [pn_at]; decide) ?_))
    unfold wpY_up
    refine br_f g0 (br_t g1 ?_)
    unfold wpY_evUp
    refine ya_st HP ?_
    rw [e]
    exact br_t (by decide) (ya_fin0 HP (by decide) ⟨rfl, rfl, pr_mk ⟨pn_VS_u (n := 2) VS rfl (by decide) (fun j ej => pn_ne _ _ ej) (fun _ => pn_at _ _ _), VO, VQ, VN⟩⟩)
  · have e : st p = 1 := es
    refine br_t (by rw [e]; decide) (xo_up1 HP e ez hz8 (xa_setl1 HP (by rw [pn_at]; decide) (by rw [pn_at]; decide) ?_))
    unfold wpY_up
    refine br_f g0 (br_t g1 ?_)
    unfold wpY_evUp
    refine ya_st HP ?_
    rw [e]
    exact br_f (by decide) (br_t (by decide) (ya_start HP (ya_ircC HP (ya_scr HP (pn_VO_in VO) ez hz8 (fun _ => ya_fin1 HP (by decide) (by decide) ⟨rfl, rfl, pr_mk ⟨pn_VS_u (n := 6) VS rfl (by decide) (fun j ej => pn_ne _ _ ej) (fun z => absurd z (by decide)), pn_VO_in VO, pn_VQ_a VQ hp, VN⟩⟩)))))
  · have n0 : ¬ st p = 0 := by rw [es]; exact nI_ne0 (by omega) (by omega)
    have n1 : ¬ st p ≤ 1 := by rw [es]; exact nI_ge (a := 1) (by omega) (by omega)
    have n2 : ¬ st p = 1 := fun zz => n1 (by rw [zz]; decide)
    refine br_f n1 ?_
    unfold wpY_up
    refine br_f g0 (br_t g1 ?_)
    unfold wpY_evUp
    refine ya_st HP ?_
    exact br_f n0 (br_f n2 ⟨rfl, rfl, pr_mk V⟩)
theorem op_down (HP : pn_P P p) (V : pn_V st ti lo hi ic q no) : wpX_down (fun r u' => wpY_down (fun r' v' => r' = r ∧ i_Rel k u' v') (C, T, F, K, pn_I st rs ti ni cr hc nk ms ei us dn sa fi, pn_O lo hi wa ic se lc rm, w, q, mg, ou, rp, ca, sg) P) (C, T, F, K, rc, st, rs, ti, ni, cr, hc, nk, ms, ei, us, dn, sa, fi, lo, hi, wa, ic, se, lc, rm, w, q, ih, vd, ro, no) P := by
  obtain ⟨VS, VO, VQ, VN⟩ := V
  have hp := pp_lt HP
  have pv := pp_v HP
  obtain ⟨s, hs9, es, ht⟩ := VS p hp
  obtain ⟨z, hz8, ez⟩ := VQ p hp
  have V : pn_V st ti lo hi ic q no := ⟨VS, VO, VQ, VN⟩
  have g0 := pp_ge0 HP
  have g1 := pp_le1 HP
  have g2 := pp_ng1 HP
  unfold wpX_down
  refine xa_end1 HP (br_f (by decide) ⟨pv, ?_⟩)
  rw [pp_n HP]
  have hcase : s < 2 ∨ s = 2 ∨ s = 3 ∨ s = 4 ∨ s = 5 ∨ s = 6 ∨ s = 7 ∨ s = 8 ∨ s = 9 := by omega
  rcases hcase with hs2 | rfl | rfl | rfl | rfl | rfl | rfl | rfl | rfl
  · have n1 : ¬ 1 < st p := by rw [es]; exact nI_nlt (a := 1) (by omega) (by decide)
    have n2 : ¬ 2 ≤ st p := by rw [es]; exact nI_ge (b := 2) (by omega) (by decide)
    refine br_f n1 ?_
    unfold wpY_down
    refine br_f g0 (br_t g1 ?_)
    unfold wpY_evDown
    refine ya_st HP ?_
    exact br_f n2 ⟨rfl, rfl, pr_mk V⟩
  · have e : st p = 2 := es
    refine br_t (by rw [e]; decide) ?_
    unfold wpX_onDown
    refine ⟨pv, ?_⟩
    rw [pp_n HP, e]
    refine nm_e (br_f (by decide) (br_f (by decide) (br_t (by decide) ⟨pv, nm_e ?_⟩)))
    refine xa_setl0 HP (by rw [pn_at]; decide) ?_
    unfold wpY_down
    refine br_f g0 (br_t g1 ?_)
    unfold wpY_evDown
    refine ya_st HP ?_
    rw [e]
    refine br_t (by decide) (br_t (by decide) ?_)
    unfold wY_evDown_25
    refine br_f (by decide) (br_f (by decide) ?_)
    unfold wY_evDown_48
    exact (ya_fin0 HP (by decide) ⟨rfl, rfl, pr_mk ⟨pn_VS_u (n := 0) VS rfl (by decide) (fun j ej => pn_ne _ _ ej) (fun _ => pn_at _ _ _), VO, VQ, VN⟩⟩)
  · have e : st p = 3 := es
    refine br_t (by rw [e]; decide) ?_
    unfold wpX_onDown
    refine ⟨pv, ?_⟩
    rw [pp_n HP, e]
    refine nm_e (br_f (by decide) (br_f (by decide) (br_f (by decide) (br_t (by decide) ⟨pv, pv, nm_e ⟨pv, nm_e ?_⟩⟩))))
    refine xa_setl0 HP (by rw [pn_at]; decide) ?_
    unfold wpY_down
    refine br_f g0 (br_t g1 ?_)
    unfold wpY_evDown
    refine ya_st HP ?_
    rw [e]
    refine br_t (by decide) (br_f (by decide) (br_f (by decide) ?_))
    refine br_t (by decide) (ya_tls HP (br_f (by decide) ?_))
    unfold wY_evDown_48
    exact (ya_fin0 HP (by decide) ⟨rfl, rfl, pr_mk ⟨pn_VS_u (n := 1) VS rfl (by decide) (fun j ej => pn_ne _ _ ej) (fun _ => pn_at _ _ _), VO, VQ, VN⟩⟩)
  · have e : st p = 4 := es
    refine br_t (by rw [e]; decide) ?_
    unfold wpX_onDown
    refine ⟨pv, ?_⟩
    rw [pp_n HP, e]
    refine nm_e (br_f (by decide) (br_f (by decide) (br_f (by decide) (br_f (by decide) (br_t (by decide) ⟨pv, nm_e ?_⟩)))))
    refine xa_setl0 HP (by rw [pn_at]; decide) ?_
    unfold wpY_down
    refine br_f g0 (br_t g1 ?_)
    unfold wpY_evDown
    refine ya_st HP ?_
    rw [e]
    refine br_t (by decide) (br_f (by decide) (br_t (by decide) ?_))
    unfold wY_evDown_25
    refine br_f (by decide) (br_f (by decide) ?_)
    unfold wY_evDown_48
    exact (ya_fin0 HP (by decide) ⟨rfl, rfl, pr_mk ⟨pn_VS_u (n := 0) VS rfl (by decide) (fun j ej => pn_ne _ _ ej) (fun _ => pn_at _ _ _), VO, VQ, VN⟩⟩)
  · have e : st p = 5 := es
    refine br_t (by rw [e]; decide) ?_
    unfold wpX_onDown
    refine ⟨pv, ?_⟩
    rw [pp_n HP, e]
    refine nm_e (br_f (by decide) (br_f (by decide) (br_f (by decide) (br_f (by decide) (br_f (by decide) (br_t (by decide) ⟨pv, nm_e ?_⟩))))))
    refine xa_setl0 HP (by rw [pn_at]; decide) ?_
    unfold wpY_down
    refine br_f g0 (br_t g1 ?_)
    unfold wpY_evDown
    refine ya_st HP ?_
    rw [e]
    refine br_t (by decide) (br_f (by decide) (br_f (by decide) ?_))
    refine br_f (by decide) (br_f (by decide) ?_)
    unfold wY_evDown_48
    exact (ya_fin0 HP (by decide) ⟨rfl, rfl, pr_mk ⟨pn_VS_u (n := 1) VS rfl (by decide) (fun j ej => pn_ne _ _ ej) (fun _ => pn_at _ _ _), VO, VQ, VN⟩⟩)
  · have e : st p = 6 := es
    refine br_t (by rw [e]; decide) ?_
    unfold wpX_onDown
    refine ⟨pv, ?_⟩
    rw [pp_n HP, e]
    refine nm_e (br_f (by decide) (br_f (by decide) (br_f (by decide) (br_f (by decide) (br_f (by decide) (br_f (by decide) (br_t (by decide) ⟨pv, nm_e ?_⟩)))))))
    refine xa_setl0 HP (by rw [pn_at]; decide) ?_
    unfold wpY_down
    refine br_f g0 (br_t g1 ?_)
    unfold wpY_evDown
    refine ya_st HP ?_
    rw [e]
    refine br_t (by decide) (br_f (by decide) (br_f (by decide) ?_))
    refine br_f (by decide) (br_f (by decide) ?_)
    unfold wY_evDown_48
    exact (ya_fin0 HP (by decide) ⟨rfl, rfl, pr_mk ⟨pn_VS_u (n := 1) VS rfl (by decide) (fun j ej => pn_ne _ _ ej) (fun _ => pn_at _ _ _), VO, VQ, VN⟩⟩)
  · have e : st p = 7 := es
    refine br_t (by rw [e]; decide) ?_
    unfold wpX_onDown
    refine ⟨pv, ?_⟩
    rw [pp_n HP, e]
    refine nm_e (br_f (by decide) (br_f (by decide) (br_f (by decide) (br_f (by decide) (br_f (by decide) (br_f (by decide) (br_f (by decide) (br_t (by decide) ⟨pv, nm_e ?_⟩))))))))
    refine xa_setl0 HP (by rw [pn_at]; decide) ?_
    unfold wpY_down
    refine br_f g0 (br_t g1 ?_)
    unfold wpY_evDown
    refine ya_st HP ?_
    rw [e]
    refine br_t (by decide) (br_f (by decide) (br_f (by decide) ?_))
    refine br_f (by decide) (br_f (by decide) ?_)
    unfold wY_evDown_48
    exact (ya_fin0 HP (by decide) ⟨rfl, rfl, pr_mk ⟨pn_VS_u (n := 1) VS rfl (by decide) (fun j ej => pn_ne _ _ ej) (fun _ => pn_at _ _ _), VO, VQ, VN⟩⟩)
  · have e : st p = 8 := es
    refine br_t (by rw [e]; decide) ?_
    unfold wpX_onDown
    refine ⟨pv, ?_⟩
    rw [pp_n HP, e]
    refine nm_e (br_f (by decide) (br_f (by decide) (br_f (by decide) (br_f (by decide) (br_f (by decide) (br_f (by decide) (br_f (by decide) (br_f (by decide) (br_t (by decide) ⟨pv, nm_e ?_⟩)))))))))
    refine xa_setl0 HP (by rw [pn_at]; decide) ?_
    unfold wpY_down
    refine br_f g0 (br_t g1 ?_)
    unfold wpY_evDown
    refine ya_st HP ?_
    rw [e]
    refine br_t (by decide) (br_f (by decide) (br_f (by decide) ?_))
    refine br_f (by decide) (br_f (by decide) ?_)
    unfold wY_evDown_48
    exact (ya_fin0 HP (by decide) ⟨rfl, rfl, pr_mk ⟨pn_VS_u (n := 1) VS rfl (by decide) (fun j ej => pn_ne _ _ ej) (fun _ => pn_at _ _ _), VO, VQ, VN⟩⟩)
  · have e : st p = 9 := es
    refine br_t (by rw [e]; decide) ?_
    unfold wpX_onDown
    refine ⟨pv, ?_⟩
    rw [pp_n HP, e]
    refine nm_e (br_f (by decide) (br_f (by decide) (br_f (by decide) (br_f (by decide) (br_f (by decide) (br_f (by decide) (br_f (by decide) (br_f (by decide) (br_f (by decide) (br_t (by decide) ⟨pv, pv, nm_e ⟨pv, nm_e ?_⟩⟩))))))))))
    refine xa_setl0 HP (by rw [pn_at]; decide) ?_
    unfold wpY_down
    refine br_f g0 (br_t g1 ?_)
    unfold wpY_evDown
    refine ya_st HP ?_
    rw [e]
    refine br_t (by decide) (br_f (by decide) (br_f (by decide) ?_))
    refine br_f (by decide) (br_t (by decide) (ya_tld HP ?_))
    unfold wY_evDown_48
    exact (ya_fin0 HP (by decide) ⟨rfl, rfl, pr_mk ⟨pn_VS_u (n := 1) VS rfl (by decide) (fun j ej => pn_ne _ _ ej) (fun _ => pn_at _ _ _), VO, VQ, VN⟩⟩)
theorem op_open (HP : pn_P P p) (V : pn_V st ti lo hi ic q no) : wpX_open (fun r u' => wpY_open (fun r' v' => r' = r ∧ i_Rel k u' v') (C, T, F, K, pn_I st rs ti ni cr hc nk ms ei us dn sa fi, pn_O lo hi wa ic se lc rm, w, q, mg, ou, rp, ca, sg) P) (C, T, F, K, rc, st, rs, ti, ni, cr, hc, nk, ms, ei, us, dn, sa, fi, lo, hi, wa, ic, se, lc, rm, w, q, ih, vd, ro, no) P := by
  have g0 := pp_ge0 HP
  have g1 := pp_le1 HP
  have g2 := pp_ng1 HP
  unfold wpX_open
  refine xa_end1 HP (br_f (by decide) ?_)
  refine ev_open (mg := mg) (ou := ou) (rp := rp) (ca := ca) (sg := sg) HP V ?_
  intro C1 T1 F1 K1 rc1 st1 rs1 ti1 ni1 cr1 hc1 nk1 ms1 ei1 us1 dn1 sa1 fi1 lo1 hi1 wa1 ic1 se1 lc1 rm1 w1 q1 vd1 ro1 no1 V1 hY
  refine xa_setl HP ?_
  unfold wpY_open
  refine br_f g0 (br_t g1 ?_)
  refine hY _ (fun a b c d => ?_)
  exact ⟨rfl, pr_mk V1⟩
theorem op_close (HP : pn_P P p) (V : pn_V st ti lo hi ic q no) : wpX_close (fun r u' => wpY_close (fun r' v' => r' = r ∧ i_Rel k u' v') (C, T, F, K, pn_I st rs ti ni cr hc nk ms ei us dn sa fi, pn_O lo hi wa ic se lc rm, w, q, mg, ou, rp, ca, sg) P) (C, T, F, K, rc, st, rs, ti, ni, cr, hc, nk, ms, ei, us, dn, sa, fi, lo, hi, wa, ic, se, lc, rm, w, q, ih, vd, ro, no) P := by
  have g0 := pp_ge0 HP
  have g1 := pp_le1 HP
  have g2 := pp_ng1 HP
  unfold wpX_close
  refine xa_end1 HP (br_f (by decide) ?_)
  refine ev_close (mg := mg) (ou := ou) (rp := rp) (ca := ca) (sg := sg) HP V ?_
  intro C1 T1 F1 K1 rc1 st1 rs1 ti1 ni1 cr1 hc1 nk1 ms1 ei1 us1 dn1 sa1 fi1 lo1 hi1 wa1 ic1 se1 lc1 rm1 w1 q1 vd1 ro1 no1 V1 hY
  refine xa_setl HP ?_
  unfold wpY_close
  refine br_f g0 (br_t g1 ?_)
  refine hY _ (fun a b c d => ?_)
  exact ⟨rfl, pr_mk V1⟩
theorem op_echo (HP : pn_P P p) (V : pn_V st ti lo hi ic q no) : wpX_echo (fun r u' => wpY_echo (fun r' v' => r' = r ∧ i_Rel k u' v') (C, T, F, K, pn_I st rs ti ni cr hc nk ms ei us dn sa fi, pn_O lo hi wa ic se lc rm, w, q, mg, ou, rp, ca, sg) P) (C, T, F, K, rc, st, rs, ti, ni, cr, hc, nk, ms, ei, us, dn, sa, fi, lo, hi, wa, ic, se, lc, rm, w, q, ih, vd, ro, no) P := by
  obtain ⟨VS, VO, VQ, VN⟩ := V
  have hp := pp_lt HP
  have pv := pp_v HP
  obtain ⟨s, hs9, es, ht⟩ := VS p hp
  obtain ⟨z, hz8, ez⟩ := VQ p hp
  have V : pn_V st ti lo hi ic q no := ⟨VS, VO, VQ, VN⟩
  have g0 := pp_ge0 HP
  have g1 := pp_le1 HP
  have g2 := pp_ng1 HP
  unfold wpX_echo
  refine xa_end1 HP (br_f (by decide) ⟨pv, ?_⟩)
  rw [pp_n HP]
  by_cases c9 : st p = 9
  · refine br_t c9 ⟨pv, ?_⟩
    by_cases c3 : ms p < 3
    · refine br_t c3 ⟨pv, pv, nm_e ⟨pv, pv, ?_⟩⟩
      rw [pn_at]
      refine nm_e ⟨pv, ?_⟩
      rw [pn_at]
      refine xa_app0 HP VN ez hz8 ⟨pv, pv, nm_e ?_⟩
      unfold wpY_echo
      refine br_f g0 (br_f g2 (ya_st HP (br_t c9 ⟨pp_vi7 HP, ?_⟩)))
      rw [pp_i7 HP, pp_i3 HP, pp_i8 HP, pn_I_a7, pn_I_a3, pn_I_u3]
      refine br_t c3 ⟨pp_vi3 HP, pp_vi3 HP, nm_e ⟨pp_vi3 HP, pp_vi8 HP, ?_⟩⟩
      rw [pn_I_a3, pn_at, pn_I_u8]
      refine nm_e ⟨pp_vi8 HP, ?_⟩
      rw [pn_I_a8, pn_at]
      refine ya_out (ya_push HP ez hz8 rfl rfl rfl rfl rfl rfl rfl ⟨pp_vi7 HP, pp_vi7 HP, ?_⟩)
      rw [pn_I_a7, pn_I_u7]
      exact nm_e ⟨rfl, pr_mk ⟨VS, VO, pn_VQ_a VQ hp, VN⟩⟩
    · refine br_f c3 ?_
      unfold wpX_onDown
      refine ⟨pv, ?_⟩
      rw [pp_n HP, c9]
      refine nm_e (br_f (by decide) (br_f (by decide) (br_f (by decide) (br_f (by decide) (br_f (by decide) (br_f (by decide) (br_f (by decide) (br_f (by decide) (br_f (by decide) (br_t (by decide) ⟨pv, pv, nm_e ⟨pv, nm_e ?_⟩⟩))))))))))
      refine xo_up1 HP (pn_at _ _ _) ez hz8 ?_
      refine xa_setl1 HP (by rw [pn_at]; decide) (by rw [pn_at]; decide) ⟨pv, nm_e ?_⟩
      unfold wpY_echo
      refine br_f g0 (br_f g2 (ya_st HP (br_t c9 ⟨pp_vi7 HP, ?_⟩)))
      rw [pp_i7 HP, pn_I_a7]
      refine br_f c3 ?_
      unfold wpY_evDown
      refine ya_st HP ?_
      rw [c9]
      refine br_t (by decide) (br_f (by decide) (br_f (by decide) ?_))
      refine br_f (by decide) (br_t (by decide) (ya_tld HP ?_))
      unfold wY_evDown_48
      refine ya_fin0 HP (by decide) ?_
      unfold wpY_evUp
      refine ya_st HP ?_
      rw [pn_at]
      refine br_f (by decide) (br_t (by decide) (ya_start HP (ya_ircC HP (ya_scr HP (pn_VO_in VO) ez hz8 (fun _ => ya_fin1 HP (by decide) (by decide) ⟨pp_vi7 HP, ?_⟩)))))
      rw [pn_I_u7, pn_uu ti p 0 K]
      refine nm_e ⟨rfl, pr_mk ?_⟩
      exact ⟨pn_VS_u (n := 6) (pn_VS_u (n := 1) VS rfl (by decide) (fun j ej => pn_ne _ _ ej) (fun _ => pn_at _ _ _)) rfl (by decide) (fun j ej => by rw [pn_ne _ _ ej, pn_ne _ _ ej]) (fun z => absurd z (by decide)), pn_VO_in VO, pn_VQ_a VQ hp, VN⟩
  · refine br_f c9 ?_
    unfold wpY_echo
    refine br_f g0 (br_f g2 (ya_st HP ?_))
    exact br_f c9 ⟨rfl, pr_mk V⟩
end UD
end
section
theorem pn_ge2 {x : Int32} {t : Int32} (h : ∃ s : Nat, s ≤ 9 ∧ x = nI s ∧ (s < 4 ∨ 8 < s → t = 0)) (c : ¬ x ≤ 1) : 2 ≤ x := by
  obtain ⟨s, hs, e, _⟩ := h
  rw [e] at c ⊢
  have : ¬ s ≤ 1 := fun z => c (nI_le (b := 1) z (by decide))
  exact nI_le (a := 2) (by omega) (by omega)
theorem pn_43 {o : Int32} (h : 4 ≤ o) : 3 < o := Int32.lt_of_lt_of_le (by decide) h
theorem pn_i4 {o : Int32} : 3 < o ↔ 4 ≤ o := by
  have a : (3 : Int32).toInt = 3 := by decide
  have b : (4 : Int32).toInt = 4 := by decide
  rw [Int32.lt_iff_toInt_lt, Int32.le_iff_toInt_le, a, b]
  omega
theorem pn_34 {o : Int32} (h : ¬ 4 ≤ o) : ¬ 3 < o := fun z => h (pn_i4.mp z)
theorem pn_i7 {o : Int32} : o < 7 ↔ o ≤ 6 := by
  have a : (7 : Int32).toInt = 7 := by decide
  have b : (6 : Int32).toInt = 6 := by decide
  rw [Int32.lt_iff_toInt_lt, Int32.le_iff_toInt_le, a, b]
  omega
theorem pn_76 {o : Int32} (h : o < 7) : o ≤ 6 := pn_i7.mp h
theorem pn_67 {o : Int32} (h : ¬ o < 7) : ¬ o ≤ 6 := fun z => h (pn_i7.mpr z)
theorem pn_VQ_d {q : Nat → Int32} {p s : Nat} (V : pn_VQ q) (hs : s ≤ 8) : pn_VQ (upd q p (nI s)) := by
  intro j hj
  by_cases e : j = p
  · exact ⟨s, hs, by rw [e, pn_at]⟩
  · rw [pn_ne _ _ e]; exact V j hj
theorem pn_VO_r {lo hi ic : Nat → Int32} {i : Nat} {a b : Int32} (V : pn_VO lo hi ic) (ha : 0 ≤ a) (hb : 0 ≤ b ∧ b ≤ 65535) : pn_VO (upd lo i a) (upd hi i b) ic := by
  intro j hj
  refine ⟨?_, (V j hj).2⟩
  by_cases e : j = i
  · rw [e, pn_at, pn_at]; exact ⟨ha, hb.1, hb.2⟩
  · rw [pn_ne _ _ e, pn_ne _ _ e]; exact (V j hj).1
theorem pn_cl_r (v : Int32) : 0 ≤ pn_cl v 0 65535 ∧ pn_cl v 0 65535 ≤ 65535 := by
  unfold pn_cl
  by_cases h1 : 0 ≤ v
  · rw [if_pos h1]
    by_cases h2 : v ≤ 65535
    · rw [if_pos h2]; exact ⟨h1, h2⟩
    · rw [if_neg h2]; decide
  · rw [if_neg h1]; decide
section PB
variable {C T F K rc : Int32} {st rs ti ni cr hc nk ms ei us dn sa fi lo hi wa ic se lc rm w q ih vd ro no mg ou rp ca sg : Nat → Int32} {P : Int32} {p : Nat}
variable {post1 : Int32 → Prop} {post2 : SY → Prop} {k : Nat}
theorem xa_has1 (HP : pn_P P p) {s : Nat} (hs : q p = nI (s + 1)) (hs8 : s + 1 ≤ 8) (h : post1 1) : wpX_hasMessage post1 (C, T, F, K, rc, st, rs, ti, ni, cr, hc, nk, ms, ei, us, dn, sa, fi, lo, hi, wa, ic, se, lc, rm, w, q, ih, vd, ro, no) P := by
  unfold wpX_hasMessage
  refine xa_end1 HP (br_f (by decide) ⟨pp_v HP, ?_⟩)
  rw [pp_n HP, hs]
  exact br_f (nI_nle (by omega) (by omega)) h
theorem xa_has0 (HP : pn_P P p) (hs : q p = nI 0) (h : post1 0) : wpX_hasMessage post1 (C, T, F, K, rc, st, rs, ti, ni, cr, hc, nk, ms, ei, us, dn, sa, fi, lo, hi, wa, ic, se, lc, rm, w, q, ih, vd, ro, no) P := by
  unfold wpX_hasMessage
  refine xa_end1 HP (br_f (by decide) ⟨pp_v HP, ?_⟩)
  rw [pp_n HP, hs]
  exact br_t (by decide) h
theorem xa_hasE {v : Int32} (h0 : ¬ v = 0) (h1 : ¬ v = 1) (h : post1 0) : wpX_hasMessage post1 (C, T, F, K, rc, st, rs, ti, ni, cr, hc, nk, ms, ei, us, dn, sa, fi, lo, hi, wa, ic, se, lc, rm, w, q, ih, vd, ro, no) v := by
  unfold wpX_hasMessage
  exact xa_end0 h0 h1 (br_t rfl h)
theorem op_drop (HP : pn_P P p) (V : pn_V st ti lo hi ic q no) : wpX_drop (fun r u' => wpY_drop (fun r' v' => r' = r ∧ i_Rel k u' v') (C, T, F, K, pn_I st rs ti ni cr hc nk ms ei us dn sa fi, pn_O lo hi wa ic se lc rm, w, q, mg, ou, rp, ca, sg) P) (C, T, F, K, rc, st, rs, ti, ni, cr, hc, nk, ms, ei, us, dn, sa, fi, lo, hi, wa, ic, se, lc, rm, w, q, ih, vd, ro, no) P := by
  obtain ⟨VS, VO, VQ, VN⟩ := V
  have hp := pp_lt HP
  have pv := pp_v HP
  obtain ⟨z, hz8, ez⟩ := VQ p hp
  have V : pn_V st ti lo hi ic q no := ⟨VS, VO, VQ, VN⟩
  have g0 := pp_ge0 HP
  have g1 := pp_le1 HP
  have g2 := pp_ng1 HP
  have hcase : z = 0 ∨ ∃ s, z = s + 1 := by
    rcases Nat.eq_zero_or_pos z with h | h
    · exact Or.inl h
    · exact Or.inr ⟨z - 1, by omega⟩
  unfold wpX_drop
  rcases hcase with rfl | ⟨s, rfl⟩
  · refine xa_has0 HP ez (br_t rfl ?_)
    unfold wpY_drop
    refine br_f g0 (br_f g2 ⟨pv, ?_⟩)
    rw [pp_n HP, ez]
    exact br_t rfl ⟨rfl, pr_mk V⟩
  · refine xa_has1 HP ez hz8 (br_f (by decide) (xa_take HP ez hz8 ?_))
    unfold wpY_drop
    refine br_f g0 (br_f g2 ⟨pv, ?_⟩)
    rw [pp_n HP]
    exact br_f (by rw [ez]; exact nI_ne0 (by omega) (by omega)) (ya_pop HP ez hz8 ⟨rfl, pr_mk ⟨VS, VO, pn_VQ_d VQ (by omega), VN⟩⟩)
theorem op_rotate (HP : pn_P P p) (V : pn_V st ti lo hi ic q no) : wpX_rotate (fun r u' => wpY_rotate (fun r' v' => r' = r ∧ i_Rel k u' v') (C, T, F, K, pn_I st rs ti ni cr hc nk ms ei us dn sa fi, pn_O lo hi wa ic se lc rm, w, q, mg, ou, rp, ca, sg) P) (C, T, F, K, rc, st, rs, ti, ni, cr, hc, nk, ms, ei, us, dn, sa, fi, lo, hi, wa, ic, se, lc, rm, w, q, ih, vd, ro, no) P := by
  obtain ⟨VS, VO, VQ, VN⟩ := V
  have hp := pp_lt HP
  have pv := pp_v HP
  obtain ⟨z, hz8, ez⟩ := VQ p hp
  have V : pn_V st ti lo hi ic q no := ⟨VS, VO, VQ, VN⟩
  have g0 := pp_ge0 HP
  have g1 := pp_le1 HP
  have g2 := pp_ng1 HP
  have hcase : z = 0 ∨ ∃ s, z = s + 1 := by
    rcases Nat.eq_zero_or_pos z with h | h
    · exact Or.inl h
    · exact Or.inr ⟨z - 1, by omega⟩
  unfold wpX_rotate
  rcases hcase with rfl | ⟨s, rfl⟩
  · refine xa_has0 HP ez (br_t rfl ?_)
    unfold wpY_rotate
    refine br_f g0 (br_f g2 ⟨pv, ?_⟩)
    rw [pp_n HP, ez]
    exact br_t rfl ⟨rfl, pr_mk V⟩
  · have s8 : s ≤ 8 := by omega
    have eq2 : upd q p (nI s) p = nI s := pn_at _ _ _
    refine xa_has1 HP ez hz8 (br_f (by decide) (xa_take HP ez hz8 (xa_app_ih HP eq2 s8 ?_)))
    unfold wpY_rotate
    refine br_f g0 (br_f g2 ⟨pv, ?_⟩)
    rw [pp_n HP]
    exact br_f (by rw [ez]; exact nI_ne0 (by omega) (by omega)) (ya_pop HP ez hz8 (ya_push HP eq2 s8 rfl rfl rfl rfl rfl rfl rfl ⟨rfl, pr_mk ⟨VS, VO, pn_VQ_a (pn_VQ_d VQ s8) hp, VN⟩⟩))
theorem ys_dl {post3 : Int32 → SY → Prop} {n j : Nat} (hj : j < 7) (h : wY_deliver_27 post3 P C T F K n (nI (j + 1)) (pn_I st rs ti ni cr hc nk ms ei us dn sa fi) (pn_O lo hi wa ic se lc rm) w q (upd mg j (ou j)) ou rp ca sg) : wY_deliver_27 post3 P C T F K (n + 1) (nI j) (pn_I st rs ti ni cr hc nk ms ei us dn sa fi) (pn_O lo hi wa ic se lc rm) w q mg ou rp ca sg := by
  refine br_f (pp_g7 hj) ?_
  rw [nI_clamp (n := j) (by omega)]
  exact ⟨vp_in_nI hj (by decide), vp_in_nI hj (by decide), nm_e (nm_r (nI_1 j) h)⟩
theorem ya_dl {post3 : Int32 → SY → Prop} {R : Int32} (eR : 1 - P = R) (h : wpY_receive (fun u => match u with | (C9, T9, F9, K9, nf9, op9, w9, q9, mg9, ou9, rp9, ca9, sg9) => post3 (mg9 0) (C9, T9, F9, K9, nf9, op9, w9, q9, mg9, ou9, rp9, ca9, sg9)) (C, T, F, K, pn_I st rs ti ni cr hc nk ms ei us dn sa fi, pn_O lo hi wa ic se lc rm, w, q, pn_l7 mg ou, ou, rp, ca, sg) R) : ∃ n, wY_deliver_27 post3 P C T F K n 0 (pn_I st rs ti ni cr hc nk ms ei us dn sa fi) (pn_O lo hi wa ic se lc rm) w q mg ou rp ca sg := by
  refine ⟨8, ys_dl (j := 0) (by decide) (ys_dl (j := 1) (by decide) (ys_dl (j := 2) (by decide) (ys_dl (j := 3) (by decide) (ys_dl (j := 4) (by decide) (ys_dl (j := 5) (by decide) (ys_dl (j := 6) (by decide) (br_t pp_77 ?_)))))))⟩
  rw [eR]
  exact h
theorem op_deliver {R : Int32} {r : Nat} (HP : pn_P P p) (HR : pn_P R r) (eR : 1 - P = R) (V : pn_V st ti lo hi ic q no) : wpX_deliver (fun r u' => wpY_deliver (fun r' v' => r' = r ∧ i_Rel k u' v') (C, T, F, K, pn_I st rs ti ni cr hc nk ms ei us dn sa fi, pn_O lo hi wa ic se lc rm, w, q, mg, ou, rp, ca, sg) P) (C, T, F, K, rc, st, rs, ti, ni, cr, hc, nk, ms, ei, us, dn, sa, fi, lo, hi, wa, ic, se, lc, rm, w, q, ih, vd, ro, no) P := by
  obtain ⟨VS, VO, VQ, VN⟩ := V
  have hp := pp_lt HP
  have pv := pp_v HP
  obtain ⟨z, hz8, ez⟩ := VQ p hp
  have V : pn_V st ti lo hi ic q no := ⟨VS, VO, VQ, VN⟩
  have g0 := pp_ge0 HP
  have g1 := pp_le1 HP
  have g2 := pp_ng1 HP
  have hcase : z = 0 ∨ ∃ s, z = s + 1 := by
    rcases Nat.eq_zero_or_pos z with h | h
    · exact Or.inl h
    · exact Or.inr ⟨z - 1, by omega⟩
  unfold wpX_deliver
  rcases hcase with rfl | ⟨s, rfl⟩
  · refine xa_has0 HP ez (br_t rfl ?_)
    unfold wpY_deliver
    refine br_f g0 (br_f g2 ⟨pv, ?_⟩)
    rw [pp_n HP, ez]
    exact br_t rfl ⟨rfl, pr_mk V⟩
  · have V2 : pn_V st ti lo hi ic (upd q p (nI s)) no := ⟨VS, VO, pn_VQ_d VQ (by omega), VN⟩
    have hM : ∀ f, f < 7 → pn_l7 ih (fun f => w (p * 56 + f)) f = (fun f => w (p * 56 + f)) f := fun f hf => pn_l7_at _ _ hf
    have hN : ∀ f, f < 7 → (pn_l7 mg (pn_l7 ou (fun f => w (p * 56 + f)))) f = (fun f => w (p * 56 + f)) f := fun f hf => (pn_l7_at _ _ hf).trans (pn_l7_at _ _ hf)
    refine xa_has1 HP ez hz8 (br_f (by decide) (xa_take HP ez hz8 ?_))
    refine nm_r eR ⟨pp_v HR, ?_⟩
    rw [pp_n HR]
    by_cases c1 : st r ≤ 1
    · refine br_t c1 ?_
      unfold wpY_deliver
      refine br_f g0 (br_f g2 ⟨pv, ?_⟩)
      rw [pp_n HP]
      refine br_f (by rw [ez]; exact nI_ne0 (by omega) (by omega)) (ya_pop HP ez hz8 (ya_dl eR ?_))
      unfold wpY_receive
      refine ya_st HR ?_
      exact br_f (fun zz => absurd (Int32.le_trans zz c1) (by decide)) ⟨rfl, pr_mk V2⟩
    · have h2s : 2 ≤ st r := pn_ge2 (VS r (pp_lt HR)) c1
      refine br_f c1 (rv_all (ou := pn_l7 ou (fun f => w (p * 56 + f))) (rp := rp) (ca := ca) (sg := sg) HR V2 hM hN h2s ?_)
      intro C1 T1 F1 K1 rc1 st1 rs1 ti1 ni1 cr1 hc1 nk1 ms1 ei1 us1 dn1 sa1 fi1 lo1 hi1 wa1 ic1 se1 lc1 rm1 w1 q1 vd1 ro1 no1 V1 hY
      refine xa_setl HR ?_
      unfold wpY_deliver
      refine br_f g0 (br_f g2 ⟨pv, ?_⟩)
      rw [pp_n HP]
      refine br_f (by rw [ez]; exact nI_ne0 (by omega) (by omega)) (ya_pop HP ez hz8 (ya_dl eR ?_))
      refine hY _ (fun a b c d => ?_)
      exact ⟨rfl, pr_mk V1⟩
theorem xs_dup {post3 : Int32 → SX → Prop} {n b t j : Nat} {v : Int32} (hb : b ≤ 105) (htl : t ≤ 105) (hv : w (b + j) = v) (hj : j < 7) (h : wX_duplicate_44 post3 P (nI b) (nI t) C T F K rc n (nI (j + 1)) st rs ti ni cr hc nk ms ei us dn sa fi lo hi wa ic se lc rm (upd w (t + j) v) q ih vd ro no) : wX_duplicate_44 post3 P (nI b) (nI t) C T F K rc (n + 1) (nI j) st rs ti ni cr hc nk ms ei us dn sa fi lo hi wa ic se lc rm w q ih vd ro no := by
  refine br_f (pp_g7 hj) ?_
  rw [pp_bk hb hj, pp_bk htl hj, hv]
  exact ⟨pp_vbk hb hj, pp_vbk htl hj, nm_e (nm_r (nI_1 j) h)⟩
theorem ys_dup {post3 : Int32 → SY → Prop} (HP : pn_P P p) {n j : Nat} (hj : j < 7) (h : wY_duplicate_33 post3 P C T F K n (nI (j + 1)) (pn_I st rs ti ni cr hc nk ms ei us dn sa fi) (pn_O lo hi wa ic se lc rm) w q mg (upd ou j (w (p * 56 + j))) rp ca sg) : wY_duplicate_33 post3 P C T F K (n + 1) (nI j) (pn_I st rs ti ni cr hc nk ms ei us dn sa fi) (pn_O lo hi wa ic se lc rm) w q mg ou rp ca sg := by
  have hb : p * 56 ≤ 105 := by have := pp_lt HP; omega
  refine br_f (pp_g7 hj) ?_
  rw [pp_y0 HP, pp_bk hb hj, nI_clamp (n := j) (by omega)]
  exact ⟨pp_vbk hb hj, vp_in_nI hj (by decide), nm_e (nm_r (nI_1 j) h)⟩
theorem op_duplicate (HP : pn_P P p) (V : pn_V st ti lo hi ic q no) : wpX_duplicate (fun r u' => wpY_duplicate (fun r' v' => r' = r ∧ i_Rel k u' v') (C, T, F, K, pn_I st rs ti ni cr hc nk ms ei us dn sa fi, pn_O lo hi wa ic se lc rm, w, q, mg, ou, rp, ca, sg) P) (C, T, F, K, rc, st, rs, ti, ni, cr, hc, nk, ms, ei, us, dn, sa, fi, lo, hi, wa, ic, se, lc, rm, w, q, ih, vd, ro, no) P := by
  obtain ⟨VS, VO, VQ, VN⟩ := V
  have hp := pp_lt HP
  have pv := pp_v HP
  obtain ⟨z, hz8, ez⟩ := VQ p hp
  have V : pn_V st ti lo hi ic q no := ⟨VS, VO, VQ, VN⟩
  have g0 := pp_ge0 HP
  have g1 := pp_le1 HP
  have g2 := pp_ng1 HP
  have hcase : z = 0 ∨ ∃ s, z = s + 1 := by
    rcases Nat.eq_zero_or_pos z with h | h
    · exact Or.inl h
    · exact Or.inr ⟨z - 1, by omega⟩
  unfold wpX_duplicate
  rcases hcase with rfl | ⟨s, rfl⟩
  · refine xa_has0 HP ez (br_t rfl ?_)
    unfold wpY_duplicate
    refine br_f g0 (br_f g2 ⟨pv, ?_⟩)
    rw [pp_n HP, ez]
    exact br_t rfl ⟨rfl, pr_mk V⟩
  · refine xa_has1 HP ez hz8 (br_f (by decide) ⟨pv, ?_⟩)
    rw [pp_n HP, ez]
    by_cases h8 : s + 1 < 8
    · have hb : p * 56 ≤ 105 := by omega
      have htl : p * 56 + (s + 1) * 7 ≤ 105 := by omega
      refine br_t (nI_lt (b := 8) h8 (by decide)) (nm_r (pp_b0 HP) ⟨pv, ?_⟩)
      rw [show nI (s + 1) * 7 = nI ((s + 1) * 7) from pn_mul _ 7]
      refine nm_r (nI_add _ _) ⟨8, ?_⟩
      have HY : ∀ post3 : Int32 → SY → Prop, (∀ ou', post3 1 (C, T, F, K, pn_I st rs ti ni cr hc nk ms ei us dn sa fi, pn_O lo hi wa ic se lc rm, pn_aw w q p (w (p * 56 + 0)) (w (p * 56 + 1)) (w (p * 56 + 2)) (w (p * 56 + 3)) (w (p * 56 + 4)) (w (p * 56 + 5)) (w (p * 56 + 6)), pn_aq q p, mg, ou', rp, ca, sg)) → wpY_duplicate post3 (C, T, F, K, pn_I st rs ti ni cr hc nk ms ei us dn sa fi, pn_O lo hi wa ic se lc rm, w, q, mg, ou, rp, ca, sg) P := by
        intro post3 h3
        unfold wpY_duplicate
        refine br_f g0 (br_f g2 ⟨pv, ?_⟩)
        rw [pp_n HP]
        refine br_f (by rw [ez]; exact nI_ne0 (by omega) (by omega)) ⟨pv, br_t (by rw [ez]; exact nI_lt (b := 8) h8 (by decide)) ⟨8, ?_⟩⟩
        refine ys_dup HP (j := 0) (by decide) (ys_dup HP (j := 1) (by decide) (ys_dup HP (j := 2) (by decide) (ys_dup HP (j := 3) (by decide) (ys_dup HP (j := 4) (by decide) (ys_dup HP (j := 5) (by decide) (ys_dup HP (j := 6) (by decide) (br_t pp_77 ?_)))))))
        exact ya_push HP ez hz8 rfl rfl rfl rfl rfl rfl rfl (h3 _)
      rw [pn_aw_lt ez h8, pn_aq_lt ez h8] at HY
      refine xs_dup hb htl (j := 0) (v := w (p * 56 + 0)) ?_ (by decide) (xs_dup hb htl (j := 1) (v := w (p * 56 + 1)) ?_ (by decide) (xs_dup hb htl (j := 2) (v := w (p * 56 + 2)) ?_ (by decide) (xs_dup hb htl (j := 3) (v := w (p * 56 + 3)) ?_ (by decide) (xs_dup hb htl (j := 4) (v := w (p * 56 + 4)) ?_ (by decide) (xs_dup hb htl (j := 5) (v := w (p * 56 + 5)) ?_ (by decide) (xs_dup hb htl (j := 6) (v := w (p * 56 + 6)) ?_ (by decide) (br_t pp_77 ⟨pv, pv, ?_⟩)))))))
      · rfl
      · rw [pn_ne _ _ (by omega)]
      · rw [pn_ne _ _ (by omega), pn_ne _ _ (by omega)]
      · rw [pn_ne _ _ (by omega), pn_ne _ _ (by omega), pn_ne _ _ (by omega)]
      · rw [pn_ne _ _ (by omega), pn_ne _ _ (by omega), pn_ne _ _ (by omega), pn_ne _ _ (by omega)]
      · rw [pn_ne _ _ (by omega), pn_ne _ _ (by omega), pn_ne _ _ (by omega), pn_ne _ _ (by omega), pn_ne _ _ (by omega)]
      · rw [pn_ne _ _ (by omega), pn_ne _ _ (by omega), pn_ne _ _ (by omega), pn_ne _ _ (by omega), pn_ne _ _ (by omega), pn_ne _ _ (by omega)]
      rw [pp_n HP]
      refine nm_e (HY _ (fun ou' => ⟨rfl, pr_mk ⟨VS, VO, ?_, VN⟩⟩))
      rw [← pn_aq_lt ez h8]
      exact pn_VQ_a VQ hp
    · have n8 : ¬ nI (s + 1) < 8 := pn_n8 h8 hz8
      refine br_f n8 ?_
      unfold wpY_duplicate
      refine br_f g0 (br_f g2 ⟨pv, ?_⟩)
      rw [pp_n HP, ez]
      exact br_f (nI_ne0 (by omega) (by omega)) ⟨pv, br_f n8 ⟨rfl, pr_mk V⟩⟩
theorem op_inj_ok (HP : pn_P P p) (V : pn_V st ti lo hi ic q no) {c d : Int32} (n9 : ¬ c = 9) (n10 : ¬ c = 10) (hc6 : c < 1 ∨ (¬ c < 1 ∧ ¬ c ≤ 6)) : vp_in P 2 ∧ ((q P.toNatClampNeg < 8 → wpX_append__noOptions (fun u => (fun r u' => wpY_inject (fun r' v' => r' = r ∧ i_Rel k u' v') (C, T, F, K, pn_I st rs ti ni cr hc nk ms ei us dn sa fi, pn_O lo hi wa ic se lc rm, w, q, mg, ou, rp, ca, sg) P c d) 1 u) (C, T, F, K, rc, st, rs, ti, ni, cr, hc, nk, ms, ei, us, dn, sa, fi, lo, hi, wa, ic, se, lc, rm, w, q, ih, vd, ro, no) P c 0 d 0) ∧ (¬ q P.toNatClampNeg < 8 → (fun r u' => wpY_inject (fun r' v' => r' = r ∧ i_Rel k u' v') (C, T, F, K, pn_I st rs ti ni cr hc nk ms ei us dn sa fi, pn_O lo hi wa ic se lc rm, w, q, mg, ou, rp, ca, sg) P c d) 0 (C, T, F, K, rc, st, rs, ti, ni, cr, hc, nk, ms, ei, us, dn, sa, fi, lo, hi, wa, ic, se, lc, rm, w, q, ih, vd, ro, no))) := by
  obtain ⟨VS, VO, VQ, VN⟩ := V
  have hp := pp_lt HP
  have pv := pp_v HP
  obtain ⟨z, hz8, ez⟩ := VQ p hp
  have V : pn_V st ti lo hi ic q no := ⟨VS, VO, VQ, VN⟩
  have g0 := pp_ge0 HP
  have g1 := pp_le1 HP
  have g2 := pp_ng1 HP
  refine ⟨pv, ?_⟩
  rw [pp_n HP]
  have HY : ∀ post3 : Int32 → SY → Prop, wY_inject_22 post3 P c d C T F K (pn_I st rs ti ni cr hc nk ms ei us dn sa fi) (pn_O lo hi wa ic se lc rm) w q mg ou rp ca sg → wpY_inject post3 (C, T, F, K, pn_I st rs ti ni cr hc nk ms ei us dn sa fi, pn_O lo hi wa ic se lc rm, w, q, mg, ou, rp, ca, sg) P c d := by
    intro post3 h3
    unfold wpY_inject
    rcases hc6 with a | ⟨a, b⟩
    · exact br_f g0 (br_t g1 (br_t a h3))
    · exact br_f g0 (br_t g1 (br_f a (br_f b h3)))
  refine br_c (fun h8 => ?_) (fun h8 => ?_)
  · refine xa_app0 HP VN ez hz8 ?_
    refine HY _ ?_
    unfold wY_inject_22
    refine br_f n9 (br_f n10 ⟨pv, ?_⟩)
    rw [pp_n HP]
    exact br_t h8 (ya_out (ya_push HP ez hz8 rfl rfl rfl rfl rfl rfl rfl ⟨rfl, pr_mk ⟨VS, VO, pn_VQ_a VQ hp, VN⟩⟩))
  · refine HY _ ?_
    unfold wY_inject_22
    refine br_f n9 (br_f n10 ⟨pv, ?_⟩)
    rw [pp_n HP]
    exact br_f h8 ⟨rfl, pr_mk V⟩
theorem op_inject (HP : pn_P P p) (V : pn_V st ti lo hi ic q no) (c d : Int32) : wpX_inject (fun r u' => wpY_inject (fun r' v' => r' = r ∧ i_Rel k u' v') (C, T, F, K, pn_I st rs ti ni cr hc nk ms ei us dn sa fi, pn_O lo hi wa ic se lc rm, w, q, mg, ou, rp, ca, sg) P c d) (C, T, F, K, rc, st, rs, ti, ni, cr, hc, nk, ms, ei, us, dn, sa, fi, lo, hi, wa, ic, se, lc, rm, w, q, ih, vd, ro, no) P c d := by
  have g0 := pp_ge0 HP
  have g1 := pp_le1 HP
  have g2 := pp_ng1 HP
  unfold wpX_inject
  refine xa_end1 HP (br_f (by decide) ?_)
  unfold wpX_isPeersOwnCode wX_isPeersOwnCode_11
  by_cases c1 : c < 1
  · have n9 : ¬ c = 9 := by intro zz; rw [zz] at c1; revert c1; decide
    have n10 : ¬ c = 10 := by intro zz; rw [zz] at c1; revert c1; decide
    exact br_t c1 (br_f n9 (br_f n10 (br_t rfl (op_inj_ok HP V n9 n10 (Or.inl c1)))))
  · by_cases c6 : c ≤ 6
    · refine br_f c1 (br_t c6 (br_f (by decide) ?_))
      unfold wpY_inject
      exact br_f g0 (br_t g1 (br_f c1 (br_t c6 ⟨rfl, pr_mk V⟩)))
    · by_cases c9 : c = 9
      · refine br_f c1 (br_f c6 (br_t c9 (br_f (by decide) ?_)))
        unfold wpY_inject wY_inject_22
        exact br_f g0 (br_t g1 (br_f c1 (br_f c6 (br_t c9 ⟨rfl, pr_mk V⟩))))
      · by_cases c10 : c = 10
        · refine br_f c1 (br_f c6 (br_f c9 (br_t c10 (br_f (by decide) ?_))))
          unfold wpY_inject wY_inject_22
          exact br_f g0 (br_t g1 (br_f c1 (br_f c6 (br_f c9 (br_t c10 ⟨rfl, pr_mk V⟩)))))
        · exact br_f c1 (br_f c6 (br_f c9 (br_f c10 (br_t rfl (op_inj_ok HP V c9 c10 (Or.inr ⟨c1, c6⟩))))))
theorem pp_iv {j : Nat} (HP : pn_P P p) (hj : j < 13) : ((P * 13) + nI j).toNatClampNeg = p * 13 + j ∧ vp_in ((P * 13) + nI j) 26 := by
  have hp := pp_lt HP
  have e : P * 13 = nI (p * 13) := by rcases HP with ⟨rfl, rfl⟩ | ⟨rfl, rfl⟩ <;> decide
  rw [e, nI_add]
  exact ⟨nI_clamp (by omega), vp_in_nI (by omega) (by decide)⟩
theorem op_peerInfo (HP : pn_P P p) (V : pn_V st ti lo hi ic q no) (v : Int32) : wpX_peerInfo (fun r => wpY_peerInfo (fun r' => r' = r ∧ i_Rel k (C, T, F, K, rc, st, rs, ti, ni, cr, hc, nk, ms, ei, us, dn, sa, fi, lo, hi, wa, ic, se, lc, rm, w, q, ih, vd, ro, no) (C, T, F, K, pn_I st rs ti ni cr hc nk ms ei us dn sa fi, pn_O lo hi wa ic se lc rm, w, q, mg, ou, rp, ca, sg)) (C, T, F, K, pn_I st rs ti ni cr hc nk ms ei us dn sa fi, pn_O lo hi wa ic se lc rm, w, q, mg, ou, rp, ca, sg) P v) (C, T, F, K, rc, st, rs, ti, ni, cr, hc, nk, ms, ei, us, dn, sa, fi, lo, hi, wa, ic, se, lc, rm, w, q, ih, vd, ro, no) P v := by
  have pv := pp_v HP
  have g0 := pp_ge0 HP
  have g1 := pp_le1 HP
  have g2 := pp_ng1 HP
  unfold wpX_peerInfo
  refine xa_end1 HP (br_f (by decide) ?_)
  rw [pp_n HP]
  by_cases v0 : v < 0
  · refine br_t v0 ?_
    unfold wpY_peerInfo
    exact br_f g0 (br_f g2 (br_t v0 ⟨rfl, pr_mk V⟩))
  by_cases v12 : 12 < v
  · refine br_f v0 (br_t v12 ?_)
    unfold wpY_peerInfo
    exact br_f g0 (br_f g2 (br_f v0 (br_f (Int32.not_le.mpr v12) ⟨rfl, pr_mk V⟩)))
  obtain ⟨j, hj, rfl⟩ := nI_of2 (M := 12) (n := 12) (by decide) v0 (Int32.not_lt.mp v12)
  have HY : ∀ a : Int32, pn_I st rs ti ni cr hc nk ms ei us dn sa fi (p * 13 + j) = a → wpY_peerInfo (fun r' => r' = a ∧ i_Rel k (C, T, F, K, rc, st, rs, ti, ni, cr, hc, nk, ms, ei, us, dn, sa, fi, lo, hi, wa, ic, se, lc, rm, w, q, ih, vd, ro, no) (C, T, F, K, pn_I st rs ti ni cr hc nk ms ei us dn sa fi, pn_O lo hi wa ic se lc rm, w, q, mg, ou, rp, ca, sg)) (C, T, F, K, pn_I st rs ti ni cr hc nk ms ei us dn sa fi, pn_O lo hi wa ic se lc rm, w, q, mg, ou, rp, ca, sg) P (nI j) := by
    intro a ea
    unfold wpY_peerInfo
    obtain ⟨e1, e2⟩ := pp_iv HP (j := j) (by omega)
    refine br_f g0 (br_f g2 (br_f v0 (br_t (Int32.not_lt.mp v12) ⟨e2, ?_⟩)))
    rw [e1]
    exact ⟨ea, pr_mk V⟩
  refine br_f v0 (br_f v12 ?_)
  have hc : j = 0 ∨ j = 1 ∨ j = 2 ∨ j = 3 ∨ j = 4 ∨ j = 5 ∨ j = 6 ∨ j = 7 ∨ j = 8 ∨ j = 9 ∨ j = 10 ∨ j = 11 ∨ j = 12 := by omega
  rcases hc with rfl | rfl | rfl | rfl | rfl | rfl | rfl | rfl | rfl | rfl | rfl | rfl | rfl
  · exact br_t (by decide) ⟨pv, HY _ (pn_I_a0 st rs ti ni cr hc nk ms ei us dn sa fi p)⟩
  · exact br_f (by decide) (br_t (by decide) ⟨pv, HY _ (pn_I_a1 st rs ti ni cr hc nk ms ei us dn sa fi p)⟩)
  · exact br_f (by decide) (br_f (by decide) (br_t (by decide) ⟨pv, HY _ (pn_I_a2 st rs ti ni cr hc nk ms ei us dn sa fi p)⟩))
  · exact br_f (by decide) (br_f (by decide) (br_f (by decide) (br_t (by decide) ⟨pv, HY _ (pn_I_a3 st rs ti ni cr hc nk ms ei us dn sa fi p)⟩)))
  · exact br_f (by decide) (br_f (by decide) (br_f (by decide) (br_f (by decide) (br_t (by decide) ⟨pv, HY _ (pn_I_a4 st rs ti ni cr hc nk ms ei us dn sa fi p)⟩))))
  · exact br_f (by decide) (br_f (by decide) (br_f (by decide) (br_f (by decide) (br_f (by decide) (br_t (by decide) ⟨pv, HY _ (pn_I_a5 st rs ti ni cr hc nk ms ei us dn sa fi p)⟩)))))
  · exact br_f (by decide) (br_f (by decide) (br_f (by decide) (br_f (by decide) (br_f (by decide) (br_f (by decide) (br_t (by decide) ⟨pv, HY _ (pn_I_a6 st rs ti ni cr hc nk ms ei us dn sa fi p)⟩))))))
  · exact br_f (by decide) (br_f (by decide) (br_f (by decide) (br_f (by decide) (br_f (by decide) (br_f (by decide) (br_f (by decide) (br_t (by decide) ⟨pv, HY _ (pn_I_a7 st rs ti ni cr hc nk ms ei us dn sa fi p)⟩)))))))
  · exact br_f (by decide) (br_f (by decide) (br_f (by decide) (br_f (by decide) (br_f (by decide) (br_f (by decide) (br_f (by decide) (br_f (by decide) (br_t (by decide) ⟨pv, HY _ (pn_I_a8 st rs ti ni cr hc nk ms ei us dn sa fi p)⟩))))))))
  · exact br_f (by decide) (br_f (by decide) (br_f (by decide) (br_f (by decide) (br_f (by decide) (br_f (by decide) (br_f (by decide) (br_f (by decide) (br_f (by decide) (br_t (by decide) ⟨pv, HY _ (pn_I_a9 st rs ti ni cr hc nk ms ei us dn sa fi p)⟩)))))))))
  · exact br_f (by decide) (br_f (by decide) (br_f (by decide) (br_f (by decide) (br_f (by decide) (br_f (by decide) (br_f (by decide) (br_f (by decide) (br_f (by decide) (br_f (by decide) (br_t (by decide) ⟨pv, HY _ (pn_I_a10 st rs ti ni cr hc nk ms ei us dn sa fi p)⟩))))))))))
  · exact br_f (by decide) (br_f (by decide) (br_f (by decide) (br_f (by decide) (br_f (by decide) (br_f (by decide) (br_f (by decide) (br_f (by decide) (br_f (by decide) (br_f (by decide) (br_f (by decide) (br_t (by decide) ⟨pv, HY _ (pn_I_a11 st rs ti ni cr hc nk ms ei us dn sa fi p)⟩)))))))))))
  · exact br_f (by decide) (br_f (by decide) (br_f (by decide) (br_f (by decide) (br_f (by decide) (br_f (by decide) (br_f (by decide) (br_f (by decide) (br_f (by decide) (br_f (by decide) (br_f (by decide) (br_f (by decide) (br_t (by decide) ⟨pv, HY _ (pn_I_a12 st rs ti ni cr hc nk ms ei us dn sa fi p)⟩))))))))))))
theorem op_optionInfo (HP : pn_P P p) (V : pn_V st ti lo hi ic q no) (o v : Int32) : wpX_optionInfo (fun r => wpY_optionInfo (fun r' => r' = r ∧ i_Rel k (C, T, F, K, rc, st, rs, ti, ni, cr, hc, nk, ms, ei, us, dn, sa, fi, lo, hi, wa, ic, se, lc, rm, w, q, ih, vd, ro, no) (C, T, F, K, pn_I st rs ti ni cr hc nk ms ei us dn sa fi, pn_O lo hi wa ic se lc rm, w, q, mg, ou, rp, ca, sg)) (C, T, F, K, pn_I st rs ti ni cr hc nk ms ei us dn sa fi, pn_O lo hi wa ic se lc rm, w, q, mg, ou, rp, ca, sg) P o v) (C, T, F, K, rc, st, rs, ti, ni, cr, hc, nk, ms, ei, us, dn, sa, fi, lo, hi, wa, ic, se, lc, rm, w, q, ih, vd, ro, no) P o v := by
  have pv := pp_v HP
  have hp := pp_lt HP
  have g0 := pp_ge0 HP
  have g1 := pp_le1 HP
  have g2 := pp_ng1 HP
  unfold wpX_optionInfo
  refine xa_end1 HP (br_f (by decide) ?_)
  unfold wpX_isOption
  by_cases o0 : o < 0
  · refine br_t o0 (br_t rfl ?_)
    unfold wpY_optionInfo
    exact br_f g0 (br_f g2 (br_t o0 ⟨rfl, pr_mk V⟩))
  by_cases o4 : 4 ≤ o
  · refine br_f o0 (br_t o4 (br_t rfl ?_))
    unfold wpY_optionInfo
    exact br_f g0 (br_f g2 (br_f o0 (br_t (pn_43 o4) ⟨rfl, pr_mk V⟩)))
  have o3 : ¬ 3 < o := pn_34 o4
  obtain ⟨i, hi4, rfl⟩ := nI_of2 (M := 3) (n := 3) (by decide) o0 (Int32.not_lt.mp o3)
  have hk : i < 4 := by omega
  refine br_f o0 (br_f o4 (br_f (by decide) ?_))
  intro x4 e4
  have ex : x4.toNatClampNeg = p * 4 + i := by rw [e4, pp_4 HP hk]
  have vx : vp_in x4 8 := by rw [e4]; exact pp_v4 HP hk
  rw [ex]
  by_cases v0 : v < 0
  · refine br_t v0 ?_
    unfold wpY_optionInfo
    exact br_f g0 (br_f g2 (br_f o0 (br_f o3 (br_t v0 ⟨rfl, pr_mk V⟩))))
  by_cases v6 : 6 < v
  · refine br_f v0 (br_t v6 ?_)
    unfold wpY_optionInfo
    exact br_f g0 (br_f g2 (br_f o0 (br_f o3 (br_f v0 (br_f (Int32.not_le.mpr v6) ⟨rfl, pr_mk V⟩)))))
  obtain ⟨j, hj, rfl⟩ := nI_of2 (M := 6) (n := 6) (by decide) v0 (Int32.not_lt.mp v6)
  have HY : ∀ a : Int32, pn_O lo hi wa ic se lc rm ((p * 4 + i) * 7 + j) = a → wpY_optionInfo (fun r' => r' = a ∧ i_Rel k (C, T, F, K, rc, st, rs, ti, ni, cr, hc, nk, ms, ei, us, dn, sa, fi, lo, hi, wa, ic, se, lc, rm, w, q, ih, vd, ro, no) (C, T, F, K, pn_I st rs ti ni cr hc nk ms ei us dn sa fi, pn_O lo hi wa ic se lc rm, w, q, mg, ou, rp, ca, sg)) (C, T, F, K, pn_I st rs ti ni cr hc nk ms ei us dn sa fi, pn_O lo hi wa ic se lc rm, w, q, mg, ou, rp, ca, sg) P (nI i) (nI j) := by
    intro a ea
    unfold wpY_optionInfo
    refine br_f g0 (br_f g2 (br_f o0 (br_f o3 (br_f v0 (br_t (Int32.not_lt.mp v6) ?_)))))
    rw [pp_o HP, nI_add, nI_clamp (n := (p * 4 + i) * 7 + j) (by omega)]
    exact ⟨vp_in_nI (by omega) (by decide), ea, pr_mk V⟩
  refine br_f v0 (br_f v6 ?_)
  have hic := (V.2.1 (p * 4 + i) (by omega)).2
  have hc : j = 0 ∨ j = 1 ∨ j = 2 ∨ j = 3 ∨ j = 4 ∨ j = 5 ∨ j = 6 := by omega
  rcases hc with rfl | rfl | rfl | rfl | rfl | rfl | rfl
  · exact br_t (by decide) ⟨vx, HY _ (pn_O_a0 lo hi wa ic se lc rm (p * 4 + i))⟩
  · exact br_f (by decide) (br_t (by decide) ⟨vx, HY _ (pn_O_a1 lo hi wa ic se lc rm (p * 4 + i))⟩)
  · exact br_f (by decide) (br_f (by decide) (br_t (by decide) ⟨vx, HY _ (pn_O_a2 lo hi wa ic se lc rm (p * 4 + i))⟩))
  · have h3 := pn_O_a3 lo hi wa ic se lc rm (p * 4 + i)
    rcases hic with c | c
    · exact br_f (by decide) (br_f (by decide) (br_f (by decide) (br_t (by decide) ⟨vx, br_t c (HY _ (h3.trans c))⟩)))
    · exact br_f (by decide) (br_f (by decide) (br_f (by decide) (br_t (by decide) ⟨vx, br_f (by rw [c]; decide) (HY _ (h3.trans c))⟩)))
  · exact br_f (by decide) (br_f (by decide) (br_f (by decide) (br_f (by decide) (br_t (by decide) ⟨vx, HY _ (pn_O_a4 lo hi wa ic se lc rm (p * 4 + i))⟩))))
  · exact br_f (by decide) (br_f (by decide) (br_f (by decide) (br_f (by decide) (br_f (by decide) (br_t (by decide) ⟨vx, HY _ (pn_O_a5 lo hi wa ic se lc rm (p * 4 + i))⟩)))))
  · exact br_f (by decide) (br_f (by decide) (br_f (by decide) (br_f (by decide) (br_f (by decide) (br_f (by decide) (br_t (by decide) ⟨vx, HY _ (pn_O_a6 lo hi wa ic se lc rm (p * 4 + i))⟩))))))
theorem op_wireSize (HP : pn_P P p) (V : pn_V st ti lo hi ic q no) : wpX_wireSize (fun r => wpY_wireSize (fun r' => r' = r ∧ i_Rel k (C, T, F, K, rc, st, rs, ti, ni, cr, hc, nk, ms, ei, us, dn, sa, fi, lo, hi, wa, ic, se, lc, rm, w, q, ih, vd, ro, no) (C, T, F, K, pn_I st rs ti ni cr hc nk ms ei us dn sa fi, pn_O lo hi wa ic se lc rm, w, q, mg, ou, rp, ca, sg)) (C, T, F, K, pn_I st rs ti ni cr hc nk ms ei us dn sa fi, pn_O lo hi wa ic se lc rm, w, q, mg, ou, rp, ca, sg) P) (C, T, F, K, rc, st, rs, ti, ni, cr, hc, nk, ms, ei, us, dn, sa, fi, lo, hi, wa, ic, se, lc, rm, w, q, ih, vd, ro, no) P := by
  have pv := pp_v HP
  have g0 := pp_ge0 HP
  have g1 := pp_le1 HP
  have g2 := pp_ng1 HP
  unfold wpX_wireSize
  refine xa_end1 HP (br_f (by decide) ⟨pv, ?_⟩)
  unfold wpY_wireSize
  exact br_f g0 (br_t g1 ⟨pv, rfl, pr_mk V⟩)
theorem op_wireInfo (HP : pn_P P p) (V : pn_V st ti lo hi ic q no) (x f : Int32) : wpX_wireInfo (fun r => wpY_wireInfo (fun r' => r' = r ∧ i_Rel k (C, T, F, K, rc, st, rs, ti, ni, cr, hc, nk, ms, ei, us, dn, sa, fi, lo, hi, wa, ic, se, lc, rm, w, q, ih, vd, ro, no) (C, T, F, K, pn_I st rs ti ni cr hc nk ms ei us dn sa fi, pn_O lo hi wa ic se lc rm, w, q, mg, ou, rp, ca, sg)) (C, T, F, K, pn_I st rs ti ni cr hc nk ms ei us dn sa fi, pn_O lo hi wa ic se lc rm, w, q, mg, ou, rp, ca, sg) P x f) (C, T, F, K, rc, st, rs, ti, ni, cr, hc, nk, ms, ei, us, dn, sa, fi, lo, hi, wa, ic, se, lc, rm, w, q, ih, vd, ro, no) P x f := by
  obtain ⟨VS, VO, VQ, VN⟩ := V
  have hp := pp_lt HP
  have pv := pp_v HP
  obtain ⟨z, hz8, ez⟩ := VQ p hp
  have V : pn_V st ti lo hi ic q no := ⟨VS, VO, VQ, VN⟩
  have g0 := pp_ge0 HP
  have g1 := pp_le1 HP
  have g2 := pp_ng1 HP
  unfold wpX_wireInfo
  refine xa_end1 HP (br_f (by decide) ?_)
  rw [pp_n HP]
  by_cases x0 : x < 0
  · refine br_t x0 ?_
    unfold wpY_wireInfo
    exact br_f g0 (br_f g2 (br_t x0 ⟨rfl, pr_mk V⟩))
  refine br_f x0 ⟨pv, ?_⟩
  by_cases xq : q p ≤ x
  · refine br_t xq ?_
    unfold wpY_wireInfo
    refine br_f g0 (br_f g2 (br_f x0 ⟨pv, ?_⟩))
    rw [pp_n HP]
    exact br_t xq ⟨rfl, pr_mk V⟩
  refine br_f xq ?_
  by_cases f0 : f < 0
  · refine br_t f0 ?_
    unfold wpY_wireInfo
    refine br_f g0 (br_f g2 (br_f x0 ⟨pv, ?_⟩))
    rw [pp_n HP]
    exact br_f xq (br_t f0 ⟨rfl, pr_mk V⟩)
  refine br_f f0 ?_
  by_cases f7 : f < 7
  · have f6 : f ≤ 6 := pn_76 f7
    obtain ⟨i, hi8, rfl⟩ := nI_of (x := x) x0
    obtain ⟨j, hj, rfl⟩ := nI_of2 (M := 6) (n := 6) (by decide) f0 f6
    have hiz : i < z := by
      rw [ez, nI_leI (by omega) hi8] at xq
      omega
    have eX : (((P * 8) + nI i) * 7) + nI j = nI (p * 56 + i * 7 + j) := by rw [pp_b HP, nI_add]
    have eY : ((P * 56) + (nI i * 7)) + nI j = nI (p * 56 + i * 7 + j) := by rw [pp_y HP, nI_add]
    have vv : vp_in (nI (p * 56 + i * 7 + j)) 112 := vp_in_nI (by omega) (by decide)
    refine br_t f7 ?_
    rw [eX]
    refine ⟨vv, ?_⟩
    unfold wpY_wireInfo
    refine br_f g0 (br_f g2 (br_f x0 ⟨pv, ?_⟩))
    rw [pp_n HP, eY]
    exact br_f xq (br_f f0 (br_t f6 ⟨vv, rfl, pr_mk V⟩))
  · refine br_f f7 ?_
    unfold wpY_wireInfo
    refine br_f g0 (br_f g2 (br_f x0 ⟨pv, ?_⟩))
    rw [pp_n HP]
    exact br_f xq (br_f f0 (br_f (pn_67 f7) ⟨rfl, pr_mk V⟩))
theorem op_setRange (HP : pn_P P p) (V : pn_V st ti lo hi ic q no) (o a b : Int32) : wpX_setRange (fun r u' => wpY_setRange (fun r' v' => r' = r ∧ i_Rel k u' v') (C, T, F, K, pn_I st rs ti ni cr hc nk ms ei us dn sa fi, pn_O lo hi wa ic se lc rm, w, q, mg, ou, rp, ca, sg) P o a b) (C, T, F, K, rc, st, rs, ti, ni, cr, hc, nk, ms, ei, us, dn, sa, fi, lo, hi, wa, ic, se, lc, rm, w, q, ih, vd, ro, no) P o a b := by
  obtain ⟨VS, VO, VQ, VN⟩ := V
  have hp := pp_lt HP
  have pv := pp_v HP
  obtain ⟨z, hz8, ez⟩ := VQ p hp
  have V : pn_V st ti lo hi ic q no := ⟨VS, VO, VQ, VN⟩
  have g0 := pp_ge0 HP
  have g1 := pp_le1 HP
  have g2 := pp_ng1 HP
  unfold wpX_setRange
  refine xa_end1 HP (br_f (by decide) ?_)
  unfold wpX_isOption
  by_cases o0 : o < 0
  · refine br_t o0 (br_t rfl ?_)
    unfold wpY_setRange
    exact br_f g0 (br_f g2 (br_t o0 ⟨rfl, pr_mk V⟩))
  by_cases o4 : 4 ≤ o
  · refine br_f o0 (br_t o4 (br_t rfl ?_))
    unfold wpY_setRange
    exact br_f g0 (br_f g2 (br_f o0 (br_f (Int32.not_le.mpr (pn_43 o4)) ⟨rfl, pr_mk V⟩)))
  have o3 : o ≤ 3 := Int32.not_lt.mp (pn_34 o4)
  obtain ⟨i, hi4, rfl⟩ := nI_of2 (M := 3) (n := 3) (by decide) o0 o3
  have hk : i < 4 := by omega
  refine br_f o0 (br_f o4 (br_f (by decide) ⟨pv, ?_⟩))
  rw [pp_n HP]
  by_cases s4 : st p < 4
  · refine br_t s4 ?_
    intro x5 e5
    have ex : x5.toNatClampNeg = p * 4 + i := by rw [e5, pp_4 HP hk]
    have vx : vp_in x5 8 := by rw [e5]; exact pp_v4 HP hk
    rw [ex]
    refine xa_clamp ⟨vx, nm_e (xa_clamp ⟨vx, nm_e ?_⟩)⟩
    unfold wpY_setRange
    refine br_f g0 (br_f g2 (br_f o0 (br_t o3 (ya_st HP (br_t s4 ?_)))))
    intro y5 d5
    have w0 : y5.toNatClampNeg = (p * 4 + i) * 7 + 0 := by rw [d5]; exact pp_o0 HP hk
    have w1 : (y5 + 1).toNatClampNeg = (p * 4 + i) * 7 + 1 := by rw [d5]; exact pp_o1 HP hk
    have u0 : vp_in y5 56 := by rw [d5]; exact pp_vo0 HP hk
    have u1 : vp_in (y5 + 1) 56 := by rw [d5]; exact pp_vo1 HP hk
    rw [w0, w1]
    refine ya_lim ⟨u0, ?_⟩
    rw [pn_O_u0]
    refine nm_e (ya_lim ⟨u1, ?_⟩)
    rw [pn_O_u1]
    exact nm_e ⟨rfl, pr_mk ⟨VS, pn_VO_r VO (pn_cl_r a).1 (pn_cl_r b), VQ, VN⟩⟩
  · refine br_f s4 ?_
    unfold wpY_setRange
    refine br_f g0 (br_f g2 (br_f o0 (br_t o3 (ya_st HP ?_))))
    exact br_f s4 ⟨rfl, pr_mk V⟩
end PB
theorem i_vc_setRange {k : Nat} {u : SX} {v : SY} (I : i_Rel k u v) (hk : k + 5 ≤ 2564) (v1 : Int32) (v2 : Int32) (v3 : Int32) (v4 : Int32) : wpX_setRange (fun r u' => wpY_setRange (fun r' v' => r' = r ∧ i_Rel (k + 5) u' v') v v1 v2 v3 v4) u v1 v2 v3 v4 := by
  obtain ⟨C, T, F, K, rc, st, rs, ti, ni, cr, hc, nk, ms, ei, us, dn, sa, fi, lo, hi, wa, ic, se, lc, rm, w, q, ih, vd, ro, no, mg, ou, rp, ca, sg, rfl, rfl, V⟩ := I
  by_cases c0 : v1 = 0
  · subst c0; exact op_setRange pp_0 V v2 v3 v4
  by_cases c1 : v1 = 1
  · subst c1; exact op_setRange pp_1 V v2 v3 v4
  unfold wpX_setRange
  refine xa_end0 c0 c1 (br_t rfl ?_)
  unfold wpY_setRange
  rcases pp_out c0 c1 with a | ⟨a, b, c⟩
  · exact br_t a ⟨rfl, pr_mk V⟩
  · exact br_f a (br_t b ⟨rfl, pr_mk V⟩)
theorem i_vc_open {k : Nat} {u : SX} {v : SY} (I : i_Rel k u v) (hk : k + 5 ≤ 2564) (v1 : Int32) : wpX_open (fun r u' => wpY_open (fun r' v' => r' = r ∧ i_Rel (k + 5) u' v') v v1) u v1 := by
  obtain ⟨C, T, F, K, rc, st, rs, ti, ni, cr, hc, nk, ms, ei, us, dn, sa, fi, lo, hi, wa, ic, se, lc, rm, w, q, ih, vd, ro, no, mg, ou, rp, ca, sg, rfl, rfl, V⟩ := I
  by_cases c0 : v1 = 0
  · subst c0; exact op_open pp_0 V
  by_cases c1 : v1 = 1
  · subst c1; exact op_open pp_1 V
  unfold wpX_open
  refine xa_end0 c0 c1 (br_t rfl ?_)
  unfold wpY_open
  rcases pp_out c0 c1 with a | ⟨a, b, c⟩
  · exact br_t a ⟨rfl, pr_mk V⟩
  · exact br_f a (br_f c ⟨rfl, pr_mk V⟩)
theorem i_vc_close {k : Nat} {u : SX} {v : SY} (I : i_Rel k u v) (hk : k + 5 ≤ 2564) (v1 : Int32) : wpX_close (fun r u' => wpY_close (fun r' v' => r' = r ∧ i_Rel (k + 5) u' v') v v1) u v1 := by
  obtain ⟨C, T, F, K, rc, st, rs, ti, ni, cr, hc, nk, ms, ei, us, dn, sa, fi, lo, hi, wa, ic, se, lc, rm, w, q, ih, vd, ro, no, mg, ou, rp, ca, sg, rfl, rfl, V⟩ := I
  by_cases c0 : v1 = 0
  · subst c0; exact op_close pp_0 V
  by_cases c1 : v1 = 1
  · subst c1; exact op_close pp_1 V
  unfold wpX_close
  refine xa_end0 c0 c1 (br_t rfl ?_)
  unfold wpY_close
  rcases pp_out c0 c1 with a | ⟨a, b, c⟩
  · exact br_t a ⟨rfl, pr_mk V⟩
  · exact br_f a (br_f c ⟨rfl, pr_mk V⟩)
theorem i_vc_up {k : Nat} {u : SX} {v : SY} (I : i_Rel k u v) (hk : k + 5 ≤ 2564) (v1 : Int32) : wpX_up (fun r u' => wpY_up (fun r' v' => r' = r ∧ i_Rel (k + 5) u' v') v v1) u v1 := by
  obtain ⟨C, T, F, K, rc, st, rs, ti, ni, cr, hc, nk, ms, ei, us, dn, sa, fi, lo, hi, wa, ic, se, lc, rm, w, q, ih, vd, ro, no, mg, ou, rp, ca, sg, rfl, rfl, V⟩ := I
  by_cases c0 : v1 = 0
  · subst c0; exact op_up pp_0 V
  by_cases c1 : v1 = 1
  · subst c1; exact op_up pp_1 V
  unfold wpX_up
  refine xa_end0 c0 c1 (br_t rfl ?_)
  unfold wpY_up
  rcases pp_out c0 c1 with a | ⟨a, b, c⟩
  · exact br_t a ⟨rfl, pr_mk V⟩
  · exact br_f a (br_f c ⟨rfl, pr_mk V⟩)
theorem i_vc_down {k : Nat} {u : SX} {v : SY} (I : i_Rel k u v) (hk : k + 5 ≤ 2564) (v1 : Int32) : wpX_down (fun r u' => wpY_down (fun r' v' => r' = r ∧ i_Rel (k + 5) u' v') v v1) u v1 := by
  obtain ⟨C, T, F, K, rc, st, rs, ti, ni, cr, hc, nk, ms, ei, us, dn, sa, fi, lo, hi, wa, ic, se, lc, rm, w, q, ih, vd, ro, no, mg, ou, rp, ca, sg, rfl, rfl, V⟩ := I
  by_cases c0 : v1 = 0
  · subst c0; exact op_down pp_0 V
  by_cases c1 : v1 = 1
  · subst c1; exact op_down pp_1 V
  unfold wpX_down
  refine xa_end0 c0 c1 (br_t rfl ?_)
  unfold wpY_down
  rcases pp_out c0 c1 with a | ⟨a, b, c⟩
  · exact br_t a ⟨rfl, pr_mk V⟩
  · exact br_f a (br_f c ⟨rfl, pr_mk V⟩)
theorem i_vc_tick {k : Nat} {u : SX} {v : SY} (I : i_Rel k u v) (hk : k + 5 ≤ 2564) : wpX_tick (fun u' => wpY_tick (fun v' => i_Rel (k + 5) u' v') v) u := by
  obtain ⟨C, T, F, K, rc, st, rs, ti, ni, cr, hc, nk, ms, ei, us, dn, sa, fi, lo, hi, wa, ic, se, lc, rm, w, q, ih, vd, ro, no, mg, ou, rp, ca, sg, rfl, rfl, V⟩ := I
  exact op_tick V
theorem i_vc_deliver {k : Nat} {u : SX} {v : SY} (I : i_Rel k u v) (hk : k + 5 ≤ 2564) (v1 : Int32) : wpX_deliver (fun r u' => wpY_deliver (fun r' v' => r' = r ∧ i_Rel (k + 5) u' v') v v1) u v1 := by
  obtain ⟨C, T, F, K, rc, st, rs, ti, ni, cr, hc, nk, ms, ei, us, dn, sa, fi, lo, hi, wa, ic, se, lc, rm, w, q, ih, vd, ro, no, mg, ou, rp, ca, sg, rfl, rfl, V⟩ := I
  by_cases c0 : v1 = 0
  · subst c0; exact op_deliver pp_0 pp_1 (by decide) V
  by_cases c1 : v1 = 1
  · subst c1; exact op_deliver pp_1 pp_0 (by decide) V
  unfold wpX_deliver
  refine xa_hasE c0 c1 (br_t rfl ?_)
  unfold wpY_deliver
  rcases pp_out c0 c1 with a | ⟨a, b, c⟩
  · exact br_t a ⟨rfl, pr_mk V⟩
  · exact br_f a (br_t b ⟨rfl, pr_mk V⟩)
theorem i_vc_drop {k : Nat} {u : SX} {v : SY} (I : i_Rel k u v) (hk : k + 5 ≤ 2564) (v1 : Int32) : wpX_drop (fun r u' => wpY_drop (fun r' v' => r' = r ∧ i_Rel (k + 5) u' v') v v1) u v1 := by
  obtain ⟨C, T, F, K, rc, st, rs, ti, ni, cr, hc, nk, ms, ei, us, dn, sa, fi, lo, hi, wa, ic, se, lc, rm, w, q, ih, vd, ro, no, mg, ou, rp, ca, sg, rfl, rfl, V⟩ := I
  by_cases c0 : v1 = 0
  · subst c0; exact op_drop pp_0 V
  by_cases c1 : v1 = 1
  · subst c1; exact op_drop pp_1 V
  unfold wpX_drop
  refine xa_hasE c0 c1 (br_t rfl ?_)
  unfold wpY_drop
  rcases pp_out c0 c1 with a | ⟨a, b, c⟩
  · exact br_t a ⟨rfl, pr_mk V⟩
  · exact br_f a (br_t b ⟨rfl, pr_mk V⟩)
theorem i_vc_duplicate {k : Nat} {u : SX} {v : SY} (I : i_Rel k u v) (hk : k + 5 ≤ 2564) (v1 : Int32) : wpX_duplicate (fun r u' => wpY_duplicate (fun r' v' => r' = r ∧ i_Rel (k + 5) u' v') v v1) u v1 := by
  obtain ⟨C, T, F, K, rc, st, rs, ti, ni, cr, hc, nk, ms, ei, us, dn, sa, fi, lo, hi, wa, ic, se, lc, rm, w, q, ih, vd, ro, no, mg, ou, rp, ca, sg, rfl, rfl, V⟩ := I
  by_cases c0 : v1 = 0
  · subst c0; exact op_duplicate pp_0 V
  by_cases c1 : v1 = 1
  · subst c1; exact op_duplicate pp_1 V
  unfold wpX_duplicate
  refine xa_hasE c0 c1 (br_t rfl ?_)
  unfold wpY_duplicate
  rcases pp_out c0 c1 with a | ⟨a, b, c⟩
  · exact br_t a ⟨rfl, pr_mk V⟩
  · exact br_f a (br_t b ⟨rfl, pr_mk V⟩)
theorem i_vc_rotate {k : Nat} {u : SX} {v : SY} (I : i_Rel k u v) (hk : k + 5 ≤ 2564) (v1 : Int32) : wpX_rotate (fun r u' => wpY_rotate (fun r' v' => r' = r ∧ i_Rel (k + 5) u' v') v v1) u v1 := by
  obtain ⟨C, T, F, K, rc, st, rs, ti, ni, cr, hc, nk, ms, ei, us, dn, sa, fi, lo, hi, wa, ic, se, lc, rm, w, q, ih, vd, ro, no, mg, ou, rp, ca, sg, rfl, rfl, V⟩ := I
  by_cases c0 : v1 = 0
  · subst c0; exact op_rotate pp_0 V
  by_cases c1 : v1 = 1
  · subst c1; exact op_rotate pp_1 V
  unfold wpX_rotate
  refine xa_hasE c0 c1 (br_t rfl ?_)
  unfold wpY_rotate
  rcases pp_out c0 c1 with a | ⟨a, b, c⟩
  · exact br_t a ⟨rfl, pr_mk V⟩
  · exact br_f a (br_t b ⟨rfl, pr_mk V⟩)
theorem i_vc_echo {k : Nat} {u : SX} {v : SY} (I : i_Rel k u v) (hk : k + 5 ≤ 2564) (v1 : Int32) : wpX_echo (fun r u' => wpY_echo (fun r' v' => r' = r ∧ i_Rel (k + 5) u' v') v v1) u v1 := by
  obtain ⟨C, T, F, K, rc, st, rs, ti, ni, cr, hc, nk, ms, ei, us, dn, sa, fi, lo, hi, wa, ic, se, lc, rm, w, q, ih, vd, ro, no, mg, ou, rp, ca, sg, rfl, rfl, V⟩ := I
  by_cases c0 : v1 = 0
  · subst c0; exact op_echo pp_0 V
  by_cases c1 : v1 = 1
  · subst c1; exact op_echo pp_1 V
  unfold wpX_echo
  refine xa_end0 c0 c1 (br_t rfl ?_)
  unfold wpY_echo
  rcases pp_out c0 c1 with a | ⟨a, b, c⟩
  · exact br_t a ⟨rfl, pr_mk V⟩
  · exact br_f a (br_t b ⟨rfl, pr_mk V⟩)
theorem i_vc_inject {k : Nat} {u : SX} {v : SY} (I : i_Rel k u v) (hk : k + 5 ≤ 2564) (v1 : Int32) (v2 : Int32) (v3 : Int32) : wpX_inject (fun r u' => wpY_inject (fun r' v' => r' = r ∧ i_Rel (k + 5) u' v') v v1 v2 v3) u v1 v2 v3 := by
  obtain ⟨C, T, F, K, rc, st, rs, ti, ni, cr, hc, nk, ms, ei, us, dn, sa, fi, lo, hi, wa, ic, se, lc, rm, w, q, ih, vd, ro, no, mg, ou, rp, ca, sg, rfl, rfl, V⟩ := I
  by_cases c0 : v1 = 0
  · subst c0; exact op_inject pp_0 V v2 v3
  by_cases c1 : v1 = 1
  · subst c1; exact op_inject pp_1 V v2 v3
  unfold wpX_inject
  refine xa_end0 c0 c1 (br_t rfl ?_)
  unfold wpY_inject
  rcases pp_out c0 c1 with a | ⟨a, b, c⟩
  · exact br_t a ⟨rfl, pr_mk V⟩
  · exact br_f a (br_f c ⟨rfl, pr_mk V⟩)
theorem i_vc_peerInfo {k : Nat} {u : SX} {v : SY} (I : i_Rel k u v) (hk : k + 5 ≤ 2564) (v1 : Int32) (v2 : Int32) : wpX_peerInfo (fun r => wpY_peerInfo (fun r' => r' = r ∧ i_Rel (k + 5) u v) v v1 v2) u v1 v2 := by
  obtain ⟨C, T, F, K, rc, st, rs, ti, ni, cr, hc, nk, ms, ei, us, dn, sa, fi, lo, hi, wa, ic, se, lc, rm, w, q, ih, vd, ro, no, mg, ou, rp, ca, sg, rfl, rfl, V⟩ := I
  by_cases c0 : v1 = 0
  · subst c0; exact op_peerInfo pp_0 V v2
  by_cases c1 : v1 = 1
  · subst c1; exact op_peerInfo pp_1 V v2
  unfold wpX_peerInfo
  refine xa_end0 c0 c1 (br_t rfl ?_)
  unfold wpY_peerInfo
  rcases pp_out c0 c1 with a | ⟨a, b, c⟩
  · exact br_t a ⟨rfl, pr_mk V⟩
  · exact br_f a (br_t b ⟨rfl, pr_mk V⟩)
theorem i_vc_optionInfo {k : Nat} {u : SX} {v : SY} (I : i_Rel k u v) (hk : k + 5 ≤ 2564) (v1 : Int32) (v2 : Int32) (v3 : Int32) : wpX_optionInfo (fun r => wpY_optionInfo (fun r' => r' = r ∧ i_Rel (k + 5) u v) v v1 v2 v3) u v1 v2 v3 := by
  obtain ⟨C, T, F, K, rc, st, rs, ti, ni, cr, hc, nk, ms, ei, us, dn, sa, fi, lo, hi, wa, ic, se, lc, rm, w, q, ih, vd, ro, no, mg, ou, rp, ca, sg, rfl, rfl, V⟩ := I
  by_cases c0 : v1 = 0
  · subst c0; exact op_optionInfo pp_0 V v2 v3
  by_cases c1 : v1 = 1
  · subst c1; exact op_optionInfo pp_1 V v2 v3
  unfold wpX_optionInfo
  refine xa_end0 c0 c1 (br_t rfl ?_)
  unfold wpY_optionInfo
  rcases pp_out c0 c1 with a | ⟨a, b, c⟩
  · exact br_t a ⟨rfl, pr_mk V⟩
  · exact br_f a (br_t b ⟨rfl, pr_mk V⟩)
theorem i_vc_wireSize {k : Nat} {u : SX} {v : SY} (I : i_Rel k u v) (hk : k + 5 ≤ 2564) (v1 : Int32) : wpX_wireSize (fun r => wpY_wireSize (fun r' => r' = r ∧ i_Rel (k + 5) u v) v v1) u v1 := by
  obtain ⟨C, T, F, K, rc, st, rs, ti, ni, cr, hc, nk, ms, ei, us, dn, sa, fi, lo, hi, wa, ic, se, lc, rm, w, q, ih, vd, ro, no, mg, ou, rp, ca, sg, rfl, rfl, V⟩ := I
  by_cases c0 : v1 = 0
  · subst c0; exact op_wireSize pp_0 V
  by_cases c1 : v1 = 1
  · subst c1; exact op_wireSize pp_1 V
  unfold wpX_wireSize
  refine xa_end0 c0 c1 (br_t rfl ?_)
  unfold wpY_wireSize
  rcases pp_out c0 c1 with a | ⟨a, b, c⟩
  · exact br_t a ⟨rfl, pr_mk V⟩
  · exact br_f a (br_f c ⟨rfl, pr_mk V⟩)
theorem i_vc_wireInfo {k : Nat} {u : SX} {v : SY} (I : i_Rel k u v) (hk : k + 5 ≤ 2564) (v1 : Int32) (v2 : Int32) (v3 : Int32) : wpX_wireInfo (fun r => wpY_wireInfo (fun r' => r' = r ∧ i_Rel (k + 5) u v) v v1 v2 v3) u v1 v2 v3 := by
  obtain ⟨C, T, F, K, rc, st, rs, ti, ni, cr, hc, nk, ms, ei, us, dn, sa, fi, lo, hi, wa, ic, se, lc, rm, w, q, ih, vd, ro, no, mg, ou, rp, ca, sg, rfl, rfl, V⟩ := I
  by_cases c0 : v1 = 0
  · subst c0; exact op_wireInfo pp_0 V v2 v3
  by_cases c1 : v1 = 1
  · subst c1; exact op_wireInfo pp_1 V v2 v3
  unfold wpX_wireInfo
  refine xa_end0 c0 c1 (br_t rfl ?_)
  unfold wpY_wireInfo
  rcases pp_out c0 c1 with a | ⟨a, b, c⟩
  · exact br_t a ⟨rfl, pr_mk V⟩
  · exact br_f a (br_t b ⟨rfl, pr_mk V⟩)
end
section
theorem pi_o0 {i : Nat} (hi8 : i < 8) : (nI (i * 7)).toNatClampNeg = i * 7 + 0 := nI_clamp (by omega)
theorem pi_v0 {i : Nat} (hi8 : i < 8) : vp_in (nI (i * 7)) 56 := vp_in_nI (by omega) (by decide)
theorem pi_o1 {i : Nat} (hi8 : i < 8) : (nI (i * 7) + 1).toNatClampNeg = i * 7 + 1 := by
  rw [show nI (i * 7) + 1 = nI (i * 7 + 1) from nI_add _ 1]; exact nI_clamp (by omega)
theorem pi_v1 {i : Nat} (hi8 : i < 8) : vp_in (nI (i * 7) + 1) 56 := by
  rw [show nI (i * 7) + 1 = nI (i * 7 + 1) from nI_add _ 1]; exact vp_in_nI (by omega) (by decide)
theorem pi_o2 {i : Nat} (hi8 : i < 8) : (nI (i * 7) + 2).toNatClampNeg = i * 7 + 2 := by
  rw [show nI (i * 7) + 2 = nI (i * 7 + 2) from nI_add _ 2]; exact nI_clamp (by omega)
theorem pi_v2 {i : Nat} (hi8 : i < 8) : vp_in (nI (i * 7) + 2) 56 := by
  rw [show nI (i * 7) + 2 = nI (i * 7 + 2) from nI_add _ 2]; exact vp_in_nI (by omega) (by decide)
theorem pi_o3 {i : Nat} (hi8 : i < 8) : (nI (i * 7) + 3).toNatClampNeg = i * 7 + 3 := by
  rw [show nI (i * 7) + 3 = nI (i * 7 + 3) from nI_add _ 3]; exact nI_clamp (by omega)
theorem pi_v3 {i : Nat} (hi8 : i < 8) : vp_in (nI (i * 7) + 3) 56 := by
  rw [show nI (i * 7) + 3 = nI (i * 7 + 3) from nI_add _ 3]; exact vp_in_nI (by omega) (by decide)
theorem pi_o4 {i : Nat} (hi8 : i < 8) : (nI (i * 7) + 4).toNatClampNeg = i * 7 + 4 := by
  rw [show nI (i * 7) + 4 = nI (i * 7 + 4) from nI_add _ 4]; exact nI_clamp (by omega)
theorem pi_v4 {i : Nat} (hi8 : i < 8) : vp_in (nI (i * 7) + 4) 56 := by
  rw [show nI (i * 7) + 4 = nI (i * 7 + 4) from nI_add _ 4]; exact vp_in_nI (by omega) (by decide)
theorem pi_o5 {i : Nat} (hi8 : i < 8) : (nI (i * 7) + 5).toNatClampNeg = i * 7 + 5 := by
  rw [show nI (i * 7) + 5 = nI (i * 7 + 5) from nI_add _ 5]; exact nI_clamp (by omega)
theorem pi_v5 {i : Nat} (hi8 : i < 8) : vp_in (nI (i * 7) + 5) 56 := by
  rw [show nI (i * 7) + 5 = nI (i * 7 + 5) from nI_add _ 5]; exact vp_in_nI (by omega) (by decide)
theorem pi_o6 {i : Nat} (hi8 : i < 8) : (nI (i * 7) + 6).toNatClampNeg = i * 7 + 6 := by
  rw [show nI (i * 7) + 6 = nI (i * 7 + 6) from nI_add _ 6]; exact nI_clamp (by omega)
theorem pi_v6 {i : Nat} (hi8 : i < 8) : vp_in (nI (i * 7) + 6) 56 := by
  rw [show nI (i * 7) + 6 = nI (i * 7 + 6) from nI_add _ 6]; exact vp_in_nI (by omega) (by decide)
def pn_v4 (a b c d : Int32) : Nat → Int32 := fun k => match k with | 0 => a | 1 => b | 2 => c | _ => d
section IX
variable {C T F K rc : Int32} {st rs ti ni cr hc nk ms ei us dn sa fi lo hi wa ic se lc rm w q ih vd ro no : Nat → Int32} {P : Int32} {p : Nat} {post : SX → Prop}
variable {N : Int32}
theorem xa_make (HP : pn_P P p) {k : Nat} (hk : k < 4) {a b : Int32} (h : post (C, T, F, K, rc, st, rs, ti, ni, cr, hc, nk, ms, ei, us, dn, sa, fi, upd lo (p * 4 + k) a, upd hi (p * 4 + k) b, wa, ic, upd se (p * 4 + k) (-1), upd lc (p * 4 + k) (-1), upd rm (p * 4 + k) (-1), w, q, ih, vd, ro, no)) : wpX_makeOption post (C, T, F, K, rc, st, rs, ti, ni, cr, hc, nk, ms, ei, us, dn, sa, fi, lo, hi, wa, ic, se, lc, rm, w, q, ih, vd, ro, no) P (nI k) a b := by
  unfold wpX_makeOption
  intro x5 e5
  have ex : x5.toNatClampNeg = p * 4 + k := by rw [e5, pp_4 HP hk]
  have vx : vp_in x5 8 := by rw [e5]; exact pp_v4 HP hk
  rw [ex]
  exact ⟨vx, nm_e ⟨vx, nm_e ⟨vx, nm_e ⟨vx, nm_e ⟨vx, nm_e h⟩⟩⟩⟩⟩
theorem xs_263 (HP : pn_P P p) (eN : P + 1 = N) {n : Nat} (h : wX_init_263 post n N C T F K rc st rs ti ni cr hc (upd nk p 0) ms ei us dn sa fi (pn_4 lo (p * 4) (pn_v4 64 1 1 0)) (pn_4 hi (p * 4) (pn_v4 1500 0 65535 15)) (pn_4 wa (p * 4) (pn_hi (pn_4 hi (p * 4) (pn_v4 1500 0 65535 15)) p)) (pn_4 ic (p * 4) (pn_in (pn_4 lo (p * 4) (pn_v4 64 1 1 0)) (pn_4 hi (p * 4) (pn_v4 1500 0 65535 15)) p)) (pn_4 se (p * 4) (pn_v4 (-1) (-1) (-1) (-1))) (pn_4 lc (p * 4) (pn_v4 (-1) (-1) (-1) (-1))) (pn_4 rm (p * 4) (pn_v4 (-1) (-1) (-1) (-1))) w q ih vd ro no) : wX_init_263 post (n + 1) P C T F K rc st rs ti ni cr hc nk ms ei us dn sa fi lo hi wa ic se lc rm w q ih vd ro no := by
  refine br_f (pp_n2 HP) ?_
  refine xa_make HP (k := 0) (by decide) ?_
  refine xa_make HP (k := 1) (by decide) ?_
  refine xa_make HP (k := 2) (by decide) ?_
  refine xa_make HP (k := 3) (by decide) ?_
  refine xa_start HP ?_
  exact nm_r eN h
theorem xs_240 {n k : Nat} (hk : k < 4) (h : wX_init_240 post C T F K rc n (nI (k + 1)) st rs ti ni cr hc nk ms ei us dn sa fi lo hi wa ic se lc rm w q ih vd ro (upd no k (-1))) : wX_init_240 post C T F K rc (n + 1) (nI k) st rs ti ni cr hc nk ms ei us dn sa fi lo hi wa ic se lc rm w q ih vd ro no := by
  refine br_f (pp_g4 hk) ⟨vp_in_nI hk (by decide), ?_⟩
  rw [nI_clamp (n := k) (by omega)]
  exact nm_e (nm_r (nI_1 k) h)
theorem xa_init {k0 k1 k2 k3 : Int32} (h : post (pn_cl k0 1 10, pn_cl k1 1 4, pn_cl k2 1 5, pn_cl k3 1 4, 0, (fun _ => 0 : Nat → Int32), (fun _ => 0 : Nat → Int32), (fun _ => 0 : Nat → Int32), (fun _ => 0 : Nat → Int32), (fun _ => 0 : Nat → Int32), (fun _ => 0 : Nat → Int32), upd (upd ((fun _ => 0 : Nat → Int32)) 0 0) 1 0, (fun _ => 0 : Nat → Int32), (fun _ => 0 : Nat → Int32), (fun _ => 0 : Nat → Int32), (fun _ => 0 : Nat → Int32), (fun _ => 0 : Nat → Int32), (fun _ => 0 : Nat → Int32), pn_4 (pn_4 ((fun _ => 0 : Nat → Int32)) (0 * 4) (pn_v4 64 1 1 0)) (1 * 4) (pn_v4 64 1 1 0), pn_4 (pn_4 ((fun _ => 0 : Nat → Int32)) (0 * 4) (pn_v4 1500 0 65535 15)) (1 * 4) (pn_v4 1500 0 65535 15), pn_4 (pn_4 ((fun _ => 0 : Nat → Int32)) (0 * 4) (pn_hi (pn_4 ((fun _ => 0 : Nat → Int32)) (0 * 4) (pn_v4 1500 0 65535 15)) 0)) (1 * 4) (pn_hi (pn_4 (pn_4 ((fun _ => 0 : Nat → Int32)) (0 * 4) (pn_v4 1500 0 65535 15)) (1 * 4) (pn_v4 1500 0 65535 15)) 1), pn_4 (pn_4 ((fun _ => 0 : Nat → Int32)) (0 * 4) (pn_in (pn_4 ((fun _ => 0 : Nat → Int32)) (0 * 4) (pn_v4 64 1 1 0)) (pn_4 ((fun _ => 0 : Nat → Int32)) (0 * 4) (pn_v4 1500 0 65535 15)) 0)) (1 * 4) (pn_in (pn_4 (pn_4 ((fun _ => 0 : Nat → Int32)) (0 * 4) (pn_v4 64 1 1 0)) (1 * 4) (pn_v4 64 1 1 0)) (pn_4 (pn_4 ((fun _ => 0 : Nat → Int32)) (0 * 4) (pn_v4 1500 0 65535 15)) (1 * 4) (pn_v4 1500 0 65535 15)) 1), pn_4 (pn_4 ((fun _ => 0 : Nat → Int32)) (0 * 4) (pn_v4 (-1) (-1) (-1) (-1))) (1 * 4) (pn_v4 (-1) (-1) (-1) (-1)), pn_4 (pn_4 ((fun _ => 0 : Nat → Int32)) (0 * 4) (pn_v4 (-1) (-1) (-1) (-1))) (1 * 4) (pn_v4 (-1) (-1) (-1) (-1)), pn_4 (pn_4 ((fun _ => 0 : Nat → Int32)) (0 * 4) (pn_v4 (-1) (-1) (-1) (-1))) (1 * 4) (pn_v4 (-1) (-1) (-1) (-1)), (fun _ => 0 : Nat → Int32), (fun _ => 0 : Nat → Int32), (fun _ => 0 : Nat → Int32), (fun _ => 0 : Nat → Int32), (fun _ => 0 : Nat → Int32), upd (upd (upd (upd (fun _ => 0 : Nat → Int32) 0 (-1)) 1 (-1)) 2 (-1)) 3 (-1))) : wpX_init post k0 k1 k2 k3 := by
  unfold wpX_init
  refine xa_clamp ?_
  refine xa_clamp ?_
  refine xa_clamp ?_
  refine xa_clamp ?_
  refine ⟨5, xs_240 (k := 0) (by decide) (xs_240 (k := 1) (by decide) (xs_240 (k := 2) (by decide) (xs_240 (k := 3) (by decide) (br_t pp_44 ⟨3, ?_⟩))))⟩
  exact xs_263 pp_0 (N := 1) (by decide) (xs_263 pp_1 (N := 2) (by decide) (br_t (by decide) h))
end IX
section IY
variable {C T F K : Int32} {st rs ti ni cr hc nk ms ei us dn sa fi lo hi wa ic se lc rm w q mg ou rp ca sg : Nat → Int32} {P : Int32} {p : Nat} {post : SY → Prop}
variable {J : Int32 → (Nat → Int32) → (Nat → Int32) → (Nat → Int32) → (Nat → Int32) → (Nat → Int32) → (Nat → Int32) → (Nat → Int32) → (Nat → Int32) → (Nat → Int32) → Prop} {i : Nat} {x7 : Int32}
theorem yi_263 {z : Int32} (hi8 : i < 8) (e7 : x7 = nI (i * 7)) (h : J (nI (i + 1)) (pn_I st rs ti ni cr hc nk ms ei us dn sa fi) (pn_O lo hi wa (upd ic i z) (upd se i (-1)) (upd lc i (-1)) (upd rm i (-1))) w q mg ou rp ca sg) : wY_init_263 post J (nI i) x7 z (x7 + 3) C T F K (pn_I st rs ti ni cr hc nk ms ei us dn sa fi) (pn_O lo hi wa ic se lc rm) w q mg ou rp ca sg := by
  have o3 : (x7 + 3).toNatClampNeg = i * 7 + 3 := by rw [e7]; exact pi_o3 hi8
  have v3 : vp_in (x7 + 3) 56 := by rw [e7]; exact pi_v3 hi8
  have o4 : (x7 + 4).toNatClampNeg = i * 7 + 4 := by rw [e7]; exact pi_o4 hi8
  have v4 : vp_in (x7 + 4) 56 := by rw [e7]; exact pi_v4 hi8
  have o5 : (x7 + 5).toNatClampNeg = i * 7 + 5 := by rw [e7]; exact pi_o5 hi8
  have v5 : vp_in (x7 + 5) 56 := by rw [e7]; exact pi_v5 hi8
  have o6 : (x7 + 6).toNatClampNeg = i * 7 + 6 := by rw [e7]; exact pi_o6 hi8
  have v6 : vp_in (x7 + 6) 56 := by rw [e7]; exact pi_v6 hi8
  unfold wY_init_263
  rw [o3, o4, o5, o6, pn_O_u3]
  refine ⟨v3, nm_e ⟨v4, ?_⟩⟩
  rw [pn_O_u4]
  refine nm_e ⟨v5, ?_⟩
  rw [pn_O_u5]
  refine nm_e ⟨v6, ?_⟩
  rw [pn_O_u6]
  exact nm_e (nm_r (nI_1 i) h)
theorem yi_212 {z : Int32} (hi8 : i < 8) (e7 : x7 = nI (i * 7)) (h : J (nI (i + 1)) (pn_I st rs ti ni cr hc nk ms ei us dn sa fi) (pn_O lo (upd hi i z) (upd wa i z) (upd ic i (if z < lo i then 0 else 1)) (upd se i (-1)) (upd lc i (-1)) (upd rm i (-1))) w q mg ou rp ca sg) : wY_init_212 post J (nI i) x7 z (x7 + 1) C T F K (pn_I st rs ti ni cr hc nk ms ei us dn sa fi) (pn_O lo hi wa ic se lc rm) w q mg ou rp ca sg := by
  have o0 : (x7).toNatClampNeg = i * 7 + 0 := by rw [e7]; exact pi_o0 hi8
  have v0 : vp_in (x7) 56 := by rw [e7]; exact pi_v0 hi8
  have o1 : (x7 + 1).toNatClampNeg = i * 7 + 1 := by rw [e7]; exact pi_o1 hi8
  have v1 : vp_in (x7 + 1) 56 := by rw [e7]; exact pi_v1 hi8
  have o2 : (x7 + 2).toNatClampNeg = i * 7 + 2 := by rw [e7]; exact pi_o2 hi8
  have v2 : vp_in (x7 + 2) 56 := by rw [e7]; exact pi_v2 hi8
  unfold wY_init_212
  rw [o0, o1, o2, pn_O_u1]
  refine ⟨v1, nm_e ⟨v1, v2, ?_⟩⟩
  rw [pn_O_a1, pn_at, pn_O_u2]
  refine nm_e ⟨v0, v1, ?_⟩
  rw [pn_O_a1, pn_O_a0, pn_at]
  by_cases c : z < lo i
  · rw [if_pos c] at h
    exact br_t c (yi_263 hi8 e7 h)
  · rw [if_neg c] at h
    exact br_f c (yi_263 hi8 e7 h)
theorem yi_169 {c z g : Int32} (hi8 : i < 8) (e7 : x7 = nI (i * 7)) (hg : (c = 0 ∧ g = 1500) ∨ (¬ c = 0 ∧ c = 1 ∧ g = 0) ∨ (¬ c = 0 ∧ ¬ c = 1 ∧ c = 2 ∧ g = 65535) ∨ (¬ c = 0 ∧ ¬ c = 1 ∧ ¬ c = 2 ∧ g = 15)) (h : J (nI (i + 1)) (pn_I st rs ti ni cr hc nk ms ei us dn sa fi) (pn_O (upd lo i z) (upd hi i g) (upd wa i g) (upd ic i (if g < z then 0 else 1)) (upd se i (-1)) (upd lc i (-1)) (upd rm i (-1))) w q mg ou rp ca sg) : wY_init_169 post J (nI i) c x7 z x7 C T F K (pn_I st rs ti ni cr hc nk ms ei us dn sa fi) (pn_O lo hi wa ic se lc rm) w q mg ou rp ca sg := by
  have o0 : (x7).toNatClampNeg = i * 7 + 0 := by rw [e7]; exact pi_o0 hi8
  have v0 : vp_in (x7) 56 := by rw [e7]; exact pi_v0 hi8
  unfold wY_init_169
  rw [o0, pn_O_u0]
  refine ⟨v0, nm_e ?_⟩
  have h2 : J (nI (i + 1)) (pn_I st rs ti ni cr hc nk ms ei us dn sa fi) (pn_O (upd lo i z) (upd hi i g) (upd wa i g) (upd ic i (if g < upd lo i z i then 0 else 1)) (upd se i (-1)) (upd lc i (-1)) (upd rm i (-1))) w q mg ou rp ca sg := by
    rw [pn_at]; exact h
  rcases hg with ⟨a, rfl⟩ | ⟨a, b, rfl⟩ | ⟨a, b, d, rfl⟩ | ⟨a, b, d, rfl⟩
  · exact br_t a (yi_212 hi8 e7 h2)
  · exact br_f a (br_t b (yi_212 hi8 e7 h2))
  · exact br_f a (br_f b (br_t d (yi_212 hi8 e7 h2)))
  · exact br_f a (br_f b (br_f d (yi_212 hi8 e7 h2)))
theorem ys_122 {n : Nat} {c z g : Int32} (hi8 : i < 8) (e6 : nI i &&& 3 = c) (hz : (c = 0 ∧ z = 64) ∨ (¬ c = 0 ∧ c = 3 ∧ z = 0) ∨ (¬ c = 0 ∧ ¬ c = 3 ∧ z = 1)) (hg : (c = 0 ∧ g = 1500) ∨ (¬ c = 0 ∧ c = 1 ∧ g = 0) ∨ (¬ c = 0 ∧ ¬ c = 1 ∧ c = 2 ∧ g = 65535) ∨ (¬ c = 0 ∧ ¬ c = 1 ∧ ¬ c = 2 ∧ g = 15)) (h : wY_init_122 post C T F K n (nI (i + 1)) (pn_I st rs ti ni cr hc nk ms ei us dn sa fi) (pn_O (upd lo i z) (upd hi i g) (upd wa i g) (upd ic i (if g < z then 0 else 1)) (upd se i (-1)) (upd lc i (-1)) (upd rm i (-1))) w q mg ou rp ca sg) : wY_init_122 post C T F K (n + 1) (nI i) (pn_I st rs ti ni cr hc nk ms ei us dn sa fi) (pn_O lo hi wa ic se lc rm) w q mg ou rp ca sg := by
  refine br_f (nI_ge (b := 8) hi8 (by decide)) (nm_r e6 (nm_r (e' := nI (i * 7)) (pn_mul i 7) ?_))
  rcases hz with ⟨a, rfl⟩ | ⟨a, b, rfl⟩ | ⟨a, b, rfl⟩
  · exact br_t a (yi_169 hi8 rfl hg h)
  · exact br_f a (br_t b (yi_169 hi8 rfl hg h))
  · exact br_f a (br_f b (yi_169 hi8 rfl hg h))
theorem ya_init {k0 k1 k2 k3 : Int32} (h : post (pn_cl k0 1 10, pn_cl k1 1 4, pn_cl k2 1 5, pn_cl k3 1 4, pn_I ((fun _ => 0 : Nat → Int32)) ((fun _ => 0 : Nat → Int32)) ((fun _ => 0 : Nat → Int32)) ((fun _ => 0 : Nat → Int32)) ((fun _ => 0 : Nat → Int32)) ((fun _ => 0 : Nat → Int32)) ((fun _ => 0 : Nat → Int32)) ((fun _ => 0 : Nat → Int32)) ((fun _ => 0 : Nat → Int32)) ((fun _ => 0 : Nat → Int32)) ((fun _ => 0 : Nat → Int32)) ((fun _ => 0 : Nat → Int32)) ((fun _ => 0 : Nat → Int32)), pn_O (upd (upd (upd (upd (upd (upd (upd (upd ((fun _ => 0 : Nat → Int32)) 0 64) 1 1) 2 1) 3 0) 4 64) 5 1) 6 1) 7 0) (upd (upd (upd (upd (upd (upd (upd (upd ((fun _ => 0 : Nat → Int32)) 0 1500) 1 0) 2 65535) 3 15) 4 1500) 5 0) 6 65535) 7 15) (upd (upd (upd (upd (upd (upd (upd (upd ((fun _ => 0 : Nat → Int32)) 0 1500) 1 0) 2 65535) 3 15) 4 1500) 5 0) 6 65535) 7 15) (upd (upd (upd (upd (upd (upd (upd (upd ((fun _ => 0 : Nat → Int32)) 0 (if (1500 : Int32) < 64 then 0 else 1)) 1 (if (0 : Int32) < 1 then 0 else 1)) 2 (if (65535 : Int32) < 1 then 0 else 1)) 3 (if (15 : Int32) < 0 then 0 else 1)) 4 (if (1500 : Int32) < 64 then 0 else 1)) 5 (if (0 : Int32) < 1 then 0 else 1)) 6 (if (65535 : Int32) < 1 then 0 else 1)) 7 (if (15 : Int32) < 0 then 0 else 1)) (upd (upd (upd (upd (upd (upd (upd (upd ((fun _ => 0 : Nat → Int32)) 0 (-1)) 1 (-1)) 2 (-1)) 3 (-1)) 4 (-1)) 5 (-1)) 6 (-1)) 7 (-1)) (upd (upd (upd (upd (upd (upd (upd (upd ((fun _ => 0 : Nat → Int32)) 0 (-1)) 1 (-1)) 2 (-1)) 3 (-1)) 4 (-1)) 5 (-1)) 6 (-1)) 7 (-1)) (upd (upd (upd (upd (upd (upd (upd (upd ((fun _ => 0 : Nat → Int32)) 0 (-1)) 1 (-1)) 2 (-1)) 3 (-1)) 4 (-1)) 5 (-1)) 6 (-1)) 7 (-1)), (fun _ => 0 : Nat → Int32), (fun _ => 0 : Nat → Int32), (fun _ => 0 : Nat → Int32), (fun _ => 0 : Nat → Int32), (fun _ => 0 : Nat → Int32), (fun _ => 0 : Nat → Int32), (fun _ => 0 : Nat → Int32))) : wpY_init post k0 k1 k2 k3 := by
  unfold wpY_init
  refine ya_lim ?_
  refine ya_lim ?_
  refine ya_lim ?_
  refine ya_lim ?_
  have h9 : ∃ n, wY_init_122 post (pn_cl k0 1 10) (pn_cl k1 1 4) (pn_cl k2 1 5) (pn_cl k3 1 4) n 0 (pn_I ((fun _ => 0 : Nat → Int32)) ((fun _ => 0 : Nat → Int32)) ((fun _ => 0 : Nat → Int32)) ((fun _ => 0 : Nat → Int32)) ((fun _ => 0 : Nat → Int32)) ((fun _ => 0 : Nat → Int32)) ((fun _ => 0 : Nat → Int32)) ((fun _ => 0 : Nat → Int32)) ((fun _ => 0 : Nat → Int32)) ((fun _ => 0 : Nat → Int32)) ((fun _ => 0 : Nat → Int32)) ((fun _ => 0 : Nat → Int32)) ((fun _ => 0 : Nat → Int32))) (pn_O ((fun _ => 0 : Nat → Int32)) ((fun _ => 0 : Nat → Int32)) ((fun _ => 0 : Nat → Int32)) ((fun _ => 0 : Nat → Int32)) ((fun _ => 0 : Nat → Int32)) ((fun _ => 0 : Nat → Int32)) ((fun _ => 0 : Nat → Int32))) ((fun _ => 0 : Nat → Int32)) ((fun _ => 0 : Nat → Int32)) ((fun _ => 0 : Nat → Int32)) ((fun _ => 0 : Nat → Int32)) ((fun _ => 0 : Nat → Int32)) ((fun _ => 0 : Nat → Int32)) ((fun _ => 0 : Nat → Int32)) := ⟨9, (ys_122 (i := 0) (c := 0) (z := 64) (g := 1500) (by decide) (by decide) (Or.inl ⟨by decide, rfl⟩) (Or.inl ⟨by decide, rfl⟩) (ys_122 (i := 1) (c := 1) (z := 1) (g := 0) (by decide) (by decide) (Or.inr (Or.inr ⟨by decide, by decide, rfl⟩)) (Or.inr (Or.inl ⟨by decide, by decide, rfl⟩)) (ys_122 (i := 2) (c := 2) (z := 1) (g := 65535) (by decide) (by decide) (Or.inr (Or.inr ⟨by decide, by decide, rfl⟩)) (Or.inr (Or.inr (Or.inl ⟨by decide, by decide, by decide, rfl⟩))) (ys_122 (i := 3) (c := 3) (z := 0) (g := 15) (by decide) (by decide) (Or.inr (Or.inl ⟨by decide, by decide, rfl⟩)) (Or.inr (Or.inr (Or.inr ⟨by decide, by decide, by decide, rfl⟩))) (ys_122 (i := 4) (c := 0) (z := 64) (g := 1500) (by decide) (by decide) (Or.inl ⟨by decide, rfl⟩) (Or.inl ⟨by decide, rfl⟩) (ys_122 (i := 5) (c := 1) (z := 1) (g := 0) (by decide) (by decide) (Or.inr (Or.inr ⟨by decide, by decide, rfl⟩)) (Or.inr (Or.inl ⟨by decide, by decide, rfl⟩)) (ys_122 (i := 6) (c := 2) (z := 1) (g := 65535) (by decide) (by decide) (Or.inr (Or.inr ⟨by decide, by decide, rfl⟩)) (Or.inr (Or.inr (Or.inl ⟨by decide, by decide, by decide, rfl⟩))) (ys_122 (i := 7) (c := 3) (z := 0) (g := 15) (by decide) (by decide) (Or.inr (Or.inl ⟨by decide, by decide, rfl⟩)) (Or.inr (Or.inr (Or.inr ⟨by decide, by decide, by decide, rfl⟩))) (br_t (by decide) h)))))))))⟩
  have eI := pn_I_0
  have eO := pn_O_0
  rw [← eI, ← eO] at h9
  exact h9
end IY
theorem in_lo : pn_4 (pn_4 ((fun _ => 0 : Nat → Int32)) (0 * 4) (pn_v4 64 1 1 0)) (1 * 4) (pn_v4 64 1 1 0) = upd (upd (upd (upd (upd (upd (upd (upd ((fun _ => 0 : Nat → Int32)) 0 64) 1 1) 2 1) 3 0) 4 64) 5 1) 6 1) 7 0 := rfl
theorem in_hi : pn_4 (pn_4 ((fun _ => 0 : Nat → Int32)) (0 * 4) (pn_v4 1500 0 65535 15)) (1 * 4) (pn_v4 1500 0 65535 15) = upd (upd (upd (upd (upd (upd (upd (upd ((fun _ => 0 : Nat → Int32)) 0 1500) 1 0) 2 65535) 3 15) 4 1500) 5 0) 6 65535) 7 15 := rfl
theorem in_wa : pn_4 (pn_4 ((fun _ => 0 : Nat → Int32)) (0 * 4) (pn_hi (pn_4 ((fun _ => 0 : Nat → Int32)) (0 * 4) (pn_v4 1500 0 65535 15)) 0)) (1 * 4) (pn_hi (pn_4 (pn_4 ((fun _ => 0 : Nat → Int32)) (0 * 4) (pn_v4 1500 0 65535 15)) (1 * 4) (pn_v4 1500 0 65535 15)) 1) = upd (upd (upd (upd (upd (upd (upd (upd ((fun _ => 0 : Nat → Int32)) 0 1500) 1 0) 2 65535) 3 15) 4 1500) 5 0) 6 65535) 7 15 := rfl
theorem in_ic : pn_4 (pn_4 ((fun _ => 0 : Nat → Int32)) (0 * 4) (pn_in (pn_4 ((fun _ => 0 : Nat → Int32)) (0 * 4) (pn_v4 64 1 1 0)) (pn_4 ((fun _ => 0 : Nat → Int32)) (0 * 4) (pn_v4 1500 0 65535 15)) 0)) (1 * 4) (pn_in (pn_4 (pn_4 ((fun _ => 0 : Nat → Int32)) (0 * 4) (pn_v4 64 1 1 0)) (1 * 4) (pn_v4 64 1 1 0)) (pn_4 (pn_4 ((fun _ => 0 : Nat → Int32)) (0 * 4) (pn_v4 1500 0 65535 15)) (1 * 4) (pn_v4 1500 0 65535 15)) 1) = upd (upd (upd (upd (upd (upd (upd (upd ((fun _ => 0 : Nat → Int32)) 0 (if (1500 : Int32) < 64 then 0 else 1)) 1 (if (0 : Int32) < 1 then 0 else 1)) 2 (if (65535 : Int32) < 1 then 0 else 1)) 3 (if (15 : Int32) < 0 then 0 else 1)) 4 (if (1500 : Int32) < 64 then 0 else 1)) 5 (if (0 : Int32) < 1 then 0 else 1)) 6 (if (65535 : Int32) < 1 then 0 else 1)) 7 (if (15 : Int32) < 0 then 0 else 1) := rfl
theorem in_se : pn_4 (pn_4 ((fun _ => 0 : Nat → Int32)) (0 * 4) (pn_v4 (-1) (-1) (-1) (-1))) (1 * 4) (pn_v4 (-1) (-1) (-1) (-1)) = upd (upd (upd (upd (upd (upd (upd (upd ((fun _ => 0 : Nat → Int32)) 0 (-1)) 1 (-1)) 2 (-1)) 3 (-1)) 4 (-1)) 5 (-1)) 6 (-1)) 7 (-1) := rfl
theorem in_lc : pn_4 (pn_4 ((fun _ => 0 : Nat → Int32)) (0 * 4) (pn_v4 (-1) (-1) (-1) (-1))) (1 * 4) (pn_v4 (-1) (-1) (-1) (-1)) = upd (upd (upd (upd (upd (upd (upd (upd ((fun _ => 0 : Nat → Int32)) 0 (-1)) 1 (-1)) 2 (-1)) 3 (-1)) 4 (-1)) 5 (-1)) 6 (-1)) 7 (-1) := rfl
theorem in_rm : pn_4 (pn_4 ((fun _ => 0 : Nat → Int32)) (0 * 4) (pn_v4 (-1) (-1) (-1) (-1))) (1 * 4) (pn_v4 (-1) (-1) (-1) (-1)) = upd (upd (upd (upd (upd (upd (upd (upd ((fun _ => 0 : Nat → Int32)) 0 (-1)) 1 (-1)) 2 (-1)) 3 (-1)) 4 (-1)) 5 (-1)) 6 (-1)) 7 (-1) := rfl
theorem in_V : pn_V ((fun _ => 0 : Nat → Int32)) ((fun _ => 0 : Nat → Int32)) (pn_4 (pn_4 ((fun _ => 0 : Nat → Int32)) (0 * 4) (pn_v4 64 1 1 0)) (1 * 4) (pn_v4 64 1 1 0)) (pn_4 (pn_4 ((fun _ => 0 : Nat → Int32)) (0 * 4) (pn_v4 1500 0 65535 15)) (1 * 4) (pn_v4 1500 0 65535 15)) (pn_4 (pn_4 ((fun _ => 0 : Nat → Int32)) (0 * 4) (pn_in (pn_4 ((fun _ => 0 : Nat → Int32)) (0 * 4) (pn_v4 64 1 1 0)) (pn_4 ((fun _ => 0 : Nat → Int32)) (0 * 4) (pn_v4 1500 0 65535 15)) 0)) (1 * 4) (pn_in (pn_4 (pn_4 ((fun _ => 0 : Nat → Int32)) (0 * 4) (pn_v4 64 1 1 0)) (1 * 4) (pn_v4 64 1 1 0)) (pn_4 (pn_4 ((fun _ => 0 : Nat → Int32)) (0 * 4) (pn_v4 1500 0 65535 15)) (1 * 4) (pn_v4 1500 0 65535 15)) 1)) ((fun _ => 0 : Nat → Int32)) (upd (upd (upd (upd (fun _ => 0 : Nat → Int32) 0 (-1)) 1 (-1)) 2 (-1)) 3 (-1)) := by
  refine ⟨?_, ?_, ?_, rfl, rfl, rfl, rfl⟩
  · intro p _
    exact ⟨0, by decide, rfl, fun _ => rfl⟩
  · intro i hi8
    rw [in_ic, in_lo, in_hi]
    have hc : i = 0 ∨ i = 1 ∨ i = 2 ∨ i = 3 ∨ i = 4 ∨ i = 5 ∨ i = 6 ∨ i = 7 := by omega
    rcases hc with rfl | rfl | rfl | rfl | rfl | rfl | rfl | rfl <;> decide
  · intro j _
    exact ⟨0, by decide, rfl⟩
theorem in_nk : upd (upd ((fun _ => 0 : Nat → Int32)) 0 0) 1 0 = (fun _ => 0 : Nat → Int32) := by
  funext j
  unfold upd
  by_cases h1 : j = 1
  · rw [if_pos h1]
  · rw [if_neg h1]
    by_cases h0 : j = 0
    · rw [if_pos h0]
    · rw [if_neg h0]
theorem i_vc0 (k0 : Int32) (k1 : Int32) (k2 : Int32) (k3 : Int32) : wpX_init (fun u => wpY_init (fun v => i_Rel 4 u v) k0 k1 k2 k3) k0 k1 k2 k3 := by
  refine xa_init ?_
  refine ya_init ?_
  have h := pr_mk (C := pn_cl k0 1 10) (T := pn_cl k1 1 4) (F := pn_cl k2 1 5) (K := pn_cl k3 1 4) (rc := 0) (k := 4) (rs := (fun _ => 0 : Nat → Int32)) (ni := (fun _ => 0 : Nat → Int32)) (cr := (fun _ => 0 : Nat → Int32)) (hc := (fun _ => 0 : Nat → Int32)) (nk := upd (upd ((fun _ => 0 : Nat → Int32)) 0 0) 1 0) (ms := (fun _ => 0 : Nat → Int32)) (ei := (fun _ => 0 : Nat → Int32)) (us := (fun _ => 0 : Nat → Int32)) (dn := (fun _ => 0 : Nat → Int32)) (sa := (fun _ => 0 : Nat → Int32)) (fi := (fun _ => 0 : Nat → Int32)) (wa := pn_4 (pn_4 ((fun _ => 0 : Nat → Int32)) (0 * 4) (pn_hi (pn_4 ((fun _ => 0 : Nat → Int32)) (0 * 4) (pn_v4 1500 0 65535 15)) 0)) (1 * 4) (pn_hi (pn_4 (pn_4 ((fun _ => 0 : Nat → Int32)) (0 * 4) (pn_v4 1500 0 65535 15)) (1 * 4) (pn_v4 1500 0 65535 15)) 1)) (se := pn_4 (pn_4 ((fun _ => 0 : Nat → Int32)) (0 * 4) (pn_v4 (-1) (-1) (-1) (-1))) (1 * 4) (pn_v4 (-1) (-1) (-1) (-1))) (lc := pn_4 (pn_4 ((fun _ => 0 : Nat → Int32)) (0 * 4) (pn_v4 (-1) (-1) (-1) (-1))) (1 * 4) (pn_v4 (-1) (-1) (-1) (-1))) (rm := pn_4 (pn_4 ((fun _ => 0 : Nat → Int32)) (0 * 4) (pn_v4 (-1) (-1) (-1) (-1))) (1 * 4) (pn_v4 (-1) (-1) (-1) (-1))) (w := (fun _ => 0 : Nat → Int32)) (ih := (fun _ => 0 : Nat → Int32)) (vd := (fun _ => 0 : Nat → Int32)) (ro := (fun _ => 0 : Nat → Int32)) (mg := (fun _ => 0 : Nat → Int32)) (ou := (fun _ => 0 : Nat → Int32)) (rp := (fun _ => 0 : Nat → Int32)) (ca := (fun _ => 0 : Nat → Int32)) (sg := (fun _ => 0 : Nat → Int32)) in_V
  rw [in_nk] at h ⊢
  rw [in_ic, in_wa, in_lo, in_hi, in_se] at h ⊢
  exact h
end
