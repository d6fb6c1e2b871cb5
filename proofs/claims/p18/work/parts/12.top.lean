theorem i_vc (xs : Nat → Int32) (L : Nat) (hL : L ≤ 260) : wpL_law (fun r => r = 1) L xs := by
  unfold wpL_law
  refine lq_cell (i := 0) (by decide) (by omega) (fun r2 => And.intro (by decide) ?_)
  refine lq_cell (i := 1) (by decide) (by omega) (fun r5 => And.intro (by decide) ?_)
  refine lq_cell (i := 2) (by decide) (by omega) (fun r8 => And.intro (by decide) ?_)
  refine lq_cell (i := 3) (by decide) (by omega) (fun r11 => And.intro (by decide) ?_)
  refine ⟨26, 215, by decide, by decide, ?_⟩
  refine xa_init (fun u I => ?_)
  obtain ⟨C1, T1, F1, K1, rc1, st1, rs1, ti1, ni1, cr1, hc1, nk1, ms1, ei1, us1, dn1, sa1, fi1, lo1, hi1, wa1, ic1, se1, lc1, rm1, w1, q1, ih1, vd1, ro1, no1, rfl, I1⟩ := I
  refine ho_all ⟨_, _, _, _, _, _, _, _, _, _, _, _, _, _, _, _, _, _, _, _, _, _, _, _, _, _, _, _, _, _, _, rfl, I1⟩ (br_f (by decide) ⟨3, ?_⟩)
  refine lq_68s (i := 4) (N := 0) hL (by decide) (by decide) I1 ?_
  intro C2 T2 F2 K2 rc2 st2 rs2 ti2 ni2 cr2 hc2 nk2 ms2 ei2 us2 dn2 sa2 fi2 lo2 hi2 wa2 ic2 se2 lc2 rm2 w2 q2 ih2 vd2 ro2 no2 I2
  refine lq_68s (i := 5) (N := 0 + 2) hL (by decide) (by decide) I2 ?_
  intro C3 T3 F3 K3 rc3 st3 rs3 ti3 ni3 cr3 hc3 nk3 ms3 ei3 us3 dn3 sa3 fi3 lo3 hi3 wa3 ic3 se3 lc3 rm3 w3 q3 ih3 vd3 ro3 no3 I3
  exact lq_68e (N := 0 + 2 + 2) hL rfl (by decide) I3
