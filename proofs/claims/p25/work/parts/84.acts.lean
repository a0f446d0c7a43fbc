set_option maxRecDepth 100000 in
set_option maxHeartbeats 4000000 in
theorem c_L_acts (l : Launch) (hlt : l.stackTraces = false) (g : k_g) (ad : k_AD) (t : k_T) (e9 : Nat) (wy : Nat) (z : Nat) (hJ : q_J e9 t) (he : e9 ≤ 190) (hwy : wy < 23) (hzz : z < 10000000) : Met l yL_acts wsL_acts rm_L_acts (va_Pc [.ref (ad 0 0), .ref (ad 9 0), .ref (ad 10 0), .ref (ad 11 0), .ref (ad 12 0), .ref (ad 13 0), .int (nI wy), .int (nI z)] (k_I g (k_ct g ad t) ad)) (va_Qi (S := k_T × k_AD) (fun r u => r = nI 1 ∧ q_J (e9 + 1) u.1 ∧ ∀ a b, a ≠ 25 → a ≠ 26 → u.2 a b = ad a b) (fun u U => k_H g u.2 u.1 U.heap) (k_A g)) 24 171 (k_A g) := by
  rcases Nat.lt_or_ge wy 5 with h5 | h5
  · exact c_L_acts_change l hlt g ad t e9 wy z hJ (by omega) (by omega) (by omega) hzz
  rcases Nat.lt_or_ge wy 8 with h8 | h8
  · exact c_L_acts_pass l hlt g ad t e9 wy z hJ (by omega) (by omega) (by omega) hzz
  rcases Nat.lt_or_ge wy 12 with h12 | h12
  · by_cases hmx : s_md t = 14
    · exact c_L_acts_copymax l hlt g ad t e9 wy z hJ (by omega) (by omega) (by omega) hzz hmx
    have hm : s_md t < 14 := by have := hJ.m14; omega
    by_cases hz4 : z % 4 = 0
    · exact c_L_acts_copyfull l hlt g ad t e9 wy z hJ (by omega) (by omega) (by omega) hzz hm hz4
    cases hla : k_la (s_th t) 60 with
    | none => exact c_L_acts_copynone l hlt g ad t e9 wy z hJ (by omega) (by omega) (by omega) hzz hm hz4 hla
    | some b0 => exact c_L_acts_copysome l hlt g ad t e9 wy z b0 hJ (by omega) (by omega) (by omega) hzz hm hz4 hla
  rcases Nat.lt_or_ge wy 14 with h14 | h14
  · rcases Bool.eq_false_or_eq_true (s_th t (z % (s_md t + 1))) with hs | hs
    · rcases Bool.eq_false_or_eq_true ((k_cl (o_b t) (z % (s_md t + 1))).any (o_dm t)) with hany | hany
      · exact c_L_acts_drillbad l hlt g ad t e9 wy z (z % (s_md t + 1)) hJ (by omega) (by omega) (by omega) hzz rfl hs hany
      · exact c_L_acts_drillok l hlt g ad t e9 wy z (z % (s_md t + 1)) hJ (by omega) (by omega) (by omega) hzz rfl hs hany
    · exact c_L_acts_drillno l hlt g ad t e9 wy z (z % (s_md t + 1)) hJ (by omega) (by omega) (by omega) hzz rfl hs
  rcases Nat.lt_or_ge wy 15 with h15 | h15
  · rcases Bool.eq_false_or_eq_true (s_th t (z % (s_md t + 1))) with hs | hs
    · exact c_L_acts_damage l hlt g ad t e9 wy z (z % (s_md t + 1)) hJ (by omega) (by omega) (by omega) hzz rfl hs
    · exact c_L_acts_damageno l hlt g ad t e9 wy z (z % (s_md t + 1)) hJ (by omega) (by omega) (by omega) hzz rfl hs
  rcases Nat.lt_or_ge wy 16 with h16 | h16
  · exact c_L_acts_rules l hlt g ad t e9 wy z (z % (s_md t + 1)) hJ (by omega) (by omega) (by omega) hzz rfl
  rcases Nat.lt_or_ge wy 18 with h18 | h18
  · exact c_L_acts_thin l hlt g ad t e9 wy z (z % (s_md t + 1)) hJ (by omega) (by omega) (by omega) hzz rfl
  rcases Nat.lt_or_ge wy 21 with h21 | h21
  · exact c_L_acts_swap l hlt g ad t e9 wy z (z % (s_md t + 1)) hJ (by omega) (by omega) (by omega) hzz rfl
  exact c_L_acts_alarm l hlt g ad t e9 wy z (z % (s_md t + 1)) hJ (by omega) (by omega) (by omega) hzz rfl
