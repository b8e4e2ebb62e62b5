/-! all of them -/
def OKk (k : Nat) : Prop := ∀ y b ml rt stc ci hs, MTab[k]? = some (y, b, ml, rt, stc, ci, hs) → (rt = none ∨ rt = some .int ∨ rt = some .boolean) ∧ ∀ pc, chkI y.cls (rbK rt) b pc (CODE k pc) = true
theorem ck0 (k : Nat) (h : k = 0) : OKk k := by
  subst h
  intro y b ml rt stc ci hs h
  cases h
  exact ⟨Or.inr (Or.inl rfl), K0⟩
theorem ck1 (k : Nat) (h : k = 1) : OKk k := by
  subst h
  intro y b ml rt stc ci hs h
  cases h
  exact ⟨Or.inl rfl, K1⟩
theorem ck2 (k : Nat) (h : k = 2) : OKk k := by
  subst h
  intro y b ml rt stc ci hs h
  cases h
  exact ⟨Or.inl rfl, K2⟩
theorem ck3 (k : Nat) (h : k = 3) : OKk k := by
  subst h
  intro y b ml rt stc ci hs h
  cases h
  exact ⟨Or.inl rfl, K3⟩
theorem ck4 (k : Nat) (h : k = 4) : OKk k := by
  subst h
  intro y b ml rt stc ci hs h
  cases h
  exact ⟨Or.inr (Or.inr rfl), K4⟩
theorem ck5 (k : Nat) (h : k = 5) : OKk k := by
  subst h
  intro y b ml rt stc ci hs h
  cases h
  exact ⟨Or.inr (Or.inl rfl), K5⟩
theorem ck6 (k : Nat) (h : k = 6) : OKk k := by
  subst h
  intro y b ml rt stc ci hs h
  cases h
  exact ⟨Or.inr (Or.inl rfl), K6⟩
theorem ck7 (k : Nat) (h : k = 7) : OKk k := by
  subst h
  intro y b ml rt stc ci hs h
  cases h
  exact ⟨Or.inl rfl, K7⟩
theorem ck8 (k : Nat) (h : k = 8) : OKk k := by
  subst h
  intro y b ml rt stc ci hs h
  cases h
  exact ⟨Or.inr (Or.inl rfl), K8⟩
theorem ck9 (k : Nat) (h : k = 9) : OKk k := by
  subst h
  intro y b ml rt stc ci hs h
  cases h
  exact ⟨Or.inr (Or.inl rfl), K9⟩
theorem ck10 (k : Nat) (h : k = 10) : OKk k := by
  subst h
  intro y b ml rt stc ci hs h
  cases h
  exact ⟨Or.inr (Or.inl rfl), K10⟩
theorem ck11 (k : Nat) (h : k = 11) : OKk k := by
  subst h
  intro y b ml rt stc ci hs h
  cases h
  exact ⟨Or.inr (Or.inl rfl), K11⟩
theorem ck12 (k : Nat) (h : k = 12) : OKk k := by
  subst h
  intro y b ml rt stc ci hs h
  cases h
  exact ⟨Or.inr (Or.inl rfl), K12⟩
theorem ck13 (k : Nat) (h : k = 13) : OKk k := by
  subst h
  intro y b ml rt stc ci hs h
  cases h
  exact ⟨Or.inl rfl, K13⟩
theorem ck14 (k : Nat) (h : k = 14) : OKk k := by
  subst h
  intro y b ml rt stc ci hs h
  cases h
  exact ⟨Or.inl rfl, K14⟩
theorem ck15 (k : Nat) (h : k = 15) : OKk k := by
  subst h
  intro y b ml rt stc ci hs h
  cases h
  exact ⟨Or.inr (Or.inl rfl), K15⟩
theorem ck16 (k : Nat) (h : k = 16) : OKk k := by
  subst h
  intro y b ml rt stc ci hs h
  cases h
  exact ⟨Or.inr (Or.inr rfl), K16⟩
theorem ck17 (k : Nat) (h : k = 17) : OKk k := by
  subst h
  intro y b ml rt stc ci hs h
  cases h
  exact ⟨Or.inr (Or.inl rfl), K17⟩
theorem ck18 (k : Nat) (h : k = 18) : OKk k := by
  subst h
  intro y b ml rt stc ci hs h
  cases h
  exact ⟨Or.inr (Or.inr rfl), K18⟩
theorem ck19 (k : Nat) (h : k = 19) : OKk k := by
  subst h
  intro y b ml rt stc ci hs h
  cases h
  exact ⟨Or.inr (Or.inl rfl), K19⟩
theorem ck20 (k : Nat) (h : k = 20) : OKk k := by
  subst h
  intro y b ml rt stc ci hs h
  cases h
  exact ⟨Or.inr (Or.inl rfl), K20⟩
theorem ck21 (k : Nat) (h : k = 21) : OKk k := by
  subst h
  intro y b ml rt stc ci hs h
  cases h
  exact ⟨Or.inr (Or.inl rfl), K21⟩
theorem ck22 (k : Nat) (h : k = 22) : OKk k := by
  subst h
  intro y b ml rt stc ci hs h
  cases h
  exact ⟨Or.inr (Or.inl rfl), K22⟩
theorem ck23 (k : Nat) (h : k = 23) : OKk k := by
  subst h
  intro y b ml rt stc ci hs h
  cases h
  exact ⟨Or.inr (Or.inl rfl), K23⟩
theorem ck24 (k : Nat) (h : k = 24) : OKk k := by
  subst h
  intro y b ml rt stc ci hs h
  cases h
  exact ⟨Or.inr (Or.inl rfl), K24⟩
theorem ck25 (k : Nat) (h : k = 25) : OKk k := by
  subst h
  intro y b ml rt stc ci hs h
  cases h
  exact ⟨Or.inr (Or.inl rfl), K25⟩
theorem ck26 (k : Nat) (h : k = 26) : OKk k := by
  subst h
  intro y b ml rt stc ci hs h
  cases h
  exact ⟨Or.inl rfl, K26⟩
theorem ck27 (k : Nat) (h : k = 27) : OKk k := by
  subst h
  intro y b ml rt stc ci hs h
  cases h
  exact ⟨Or.inl rfl, K27⟩
theorem ck28 (k : Nat) (h : k = 28) : OKk k := by
  subst h
  intro y b ml rt stc ci hs h
  cases h
  exact ⟨Or.inl rfl, K28⟩
theorem ck29 (k : Nat) (h : k = 29) : OKk k := by
  subst h
  intro y b ml rt stc ci hs h
  cases h
  exact ⟨Or.inl rfl, K29⟩
theorem ck30 (k : Nat) (h : k = 30) : OKk k := by
  subst h
  intro y b ml rt stc ci hs h
  cases h
  exact ⟨Or.inl rfl, K30⟩
theorem ck31 (k : Nat) (h : k = 31) : OKk k := by
  subst h
  intro y b ml rt stc ci hs h
  cases h
  exact ⟨Or.inr (Or.inl rfl), K31⟩
theorem ck32 (k : Nat) (h : k = 32) : OKk k := by
  subst h
  intro y b ml rt stc ci hs h
  cases h
  exact ⟨Or.inl rfl, K32⟩
theorem ck33 (k : Nat) (h : k = 33) : OKk k := by
  subst h
  intro y b ml rt stc ci hs h
  cases h
  exact ⟨Or.inr (Or.inl rfl), K33⟩
theorem ck34 (k : Nat) (h : k = 34) : OKk k := by
  subst h
  intro y b ml rt stc ci hs h
  cases h
  exact ⟨Or.inl rfl, K34⟩
theorem ck35 (k : Nat) (h : k = 35) : OKk k := by
  subst h
  intro y b ml rt stc ci hs h
  cases h
  exact ⟨Or.inl rfl, K35⟩
theorem ck36 (k : Nat) (h : k = 36) : OKk k := by
  subst h
  intro y b ml rt stc ci hs h
  cases h
  exact ⟨Or.inl rfl, K36⟩
theorem ck37 (k : Nat) (h : k = 37) : OKk k := by
  subst h
  intro y b ml rt stc ci hs h
  cases h
  exact ⟨Or.inl rfl, K37⟩
theorem ck38 (k : Nat) (h : k = 38) : OKk k := by
  subst h
  intro y b ml rt stc ci hs h
  cases h
  exact ⟨Or.inr (Or.inr rfl), K38⟩
theorem ck39 (k : Nat) (h : k = 39) : OKk k := by
  subst h
  intro y b ml rt stc ci hs h
  cases h
  exact ⟨Or.inl rfl, K39⟩
theorem ck40 (k : Nat) (h : k = 40) : OKk k := by
  subst h
  intro y b ml rt stc ci hs h
  cases h
  exact ⟨Or.inl rfl, K40⟩
theorem ck41 (k : Nat) (h : k = 41) : OKk k := by
  subst h
  intro y b ml rt stc ci hs h
  cases h
  exact ⟨Or.inr (Or.inl rfl), K41⟩
theorem ck42 (k : Nat) (h : k = 42) : OKk k := by
  subst h
  intro y b ml rt stc ci hs h
  cases h
  exact ⟨Or.inr (Or.inl rfl), K42⟩
theorem ck43 (k : Nat) (h : k = 43) : OKk k := by
  subst h
  intro y b ml rt stc ci hs h
  cases h
  exact ⟨Or.inl rfl, K43⟩
theorem ck44 (k : Nat) (h : k = 44) : OKk k := by
  subst h
  intro y b ml rt stc ci hs h
  cases h
  exact ⟨Or.inl rfl, K44⟩
theorem ck45 (k : Nat) (h : k = 45) : OKk k := by
  subst h
  intro y b ml rt stc ci hs h
  cases h
  exact ⟨Or.inl rfl, K45⟩
theorem ck46 (k : Nat) (h : k = 46) : OKk k := by
  subst h
  intro y b ml rt stc ci hs h
  cases h
  exact ⟨Or.inl rfl, K46⟩
theorem ck47 (k : Nat) (h : k = 47) : OKk k := by
  subst h
  intro y b ml rt stc ci hs h
  cases h
  exact ⟨Or.inl rfl, K47⟩
theorem ck48 (k : Nat) (h : k = 48) : OKk k := by
  subst h
  intro y b ml rt stc ci hs h
  cases h
  exact ⟨Or.inl rfl, K48⟩
theorem ck49 (k : Nat) (h : k = 49) : OKk k := by
  subst h
  intro y b ml rt stc ci hs h
  cases h
  exact ⟨Or.inl rfl, K49⟩
theorem ck50 (k : Nat) (h : k = 50) : OKk k := by
  subst h
  intro y b ml rt stc ci hs h
  cases h
  exact ⟨Or.inl rfl, K50⟩
theorem ck51 (k : Nat) (h : k = 51) : OKk k := by
  subst h
  intro y b ml rt stc ci hs h
  cases h
  exact ⟨Or.inl rfl, K51⟩
theorem ck52 (k : Nat) (h : k = 52) : OKk k := by
  subst h
  intro y b ml rt stc ci hs h
  cases h
  exact ⟨Or.inl rfl, K52⟩
theorem ck53 (k : Nat) (h : k = 53) : OKk k := by
  subst h
  intro y b ml rt stc ci hs h
  cases h
  exact ⟨Or.inl rfl, K53⟩
theorem ck54 (k : Nat) (h : k = 54) : OKk k := by
  subst h
  intro y b ml rt stc ci hs h
  cases h
  exact ⟨Or.inr (Or.inl rfl), K54⟩
theorem ck55 (k : Nat) (h : k = 55) : OKk k := by
  subst h
  intro y b ml rt stc ci hs h
  cases h
  exact ⟨Or.inr (Or.inl rfl), K55⟩
theorem ck56 (k : Nat) (h : k = 56) : OKk k := by
  subst h
  intro y b ml rt stc ci hs h
  cases h
  exact ⟨Or.inr (Or.inl rfl), K56⟩
theorem ck57 (k : Nat) (h : k = 57) : OKk k := by
  subst h
  intro y b ml rt stc ci hs h
  cases h
  exact ⟨Or.inl rfl, K57⟩
theorem ck58 (k : Nat) (h : k = 58) : OKk k := by
  subst h
  intro y b ml rt stc ci hs h
  cases h
  exact ⟨Or.inr (Or.inr rfl), K58⟩
theorem ck59 (k : Nat) (h : k = 59) : OKk k := by
  subst h
  intro y b ml rt stc ci hs h
  cases h
  exact ⟨Or.inr (Or.inl rfl), K59⟩
theorem ck60 (k : Nat) (h : k = 60) : OKk k := by
  subst h
  intro y b ml rt stc ci hs h
  cases h
  exact ⟨Or.inl rfl, K60⟩
theorem ck61 (k : Nat) (h : k = 61) : OKk k := by
  subst h
  intro y b ml rt stc ci hs h
  cases h
  exact ⟨Or.inr (Or.inl rfl), K61⟩
theorem ck62 (k : Nat) (h : k = 62) : OKk k := by
  subst h
  intro y b ml rt stc ci hs h
  cases h
  exact ⟨Or.inr (Or.inr rfl), K62⟩
theorem ck63 (k : Nat) (h : k = 63) : OKk k := by
  subst h
  intro y b ml rt stc ci hs h
  cases h
  exact ⟨Or.inl rfl, K63⟩
theorem ck64 (k : Nat) (h : k = 64) : OKk k := by
  subst h
  intro y b ml rt stc ci hs h
  cases h
  exact ⟨Or.inl rfl, K64⟩
theorem ck65 (k : Nat) (h : k = 65) : OKk k := by
  subst h
  intro y b ml rt stc ci hs h
  cases h
  exact ⟨Or.inl rfl, K65⟩
theorem ck66 (k : Nat) (h : k = 66) : OKk k := by
  subst h
  intro y b ml rt stc ci hs h
  cases h
  exact ⟨Or.inr (Or.inr rfl), K66⟩
theorem ck67 (k : Nat) (h : k = 67) : OKk k := by
  subst h
  intro y b ml rt stc ci hs h
  cases h
  exact ⟨Or.inl rfl, K67⟩
theorem ck68 (k : Nat) (h : k = 68) : OKk k := by
  subst h
  intro y b ml rt stc ci hs h
  cases h
  exact ⟨Or.inr (Or.inr rfl), K68⟩
theorem ck69 (k : Nat) (h : k = 69) : OKk k := by
  subst h
  intro y b ml rt stc ci hs h
  cases h
  exact ⟨Or.inl rfl, K69⟩
theorem ck70 (k : Nat) (h : k = 70) : OKk k := by
  subst h
  intro y b ml rt stc ci hs h
  cases h
  exact ⟨Or.inl rfl, K70⟩
theorem ck71 (k : Nat) (h : k = 71) : OKk k := by
  subst h
  intro y b ml rt stc ci hs h
  cases h
  exact ⟨Or.inl rfl, K71⟩
theorem ck72 (k : Nat) (h : k = 72) : OKk k := by
  subst h
  intro y b ml rt stc ci hs h
  cases h
  exact ⟨Or.inl rfl, K72⟩
theorem ck73 (k : Nat) (h : k = 73) : OKk k := by
  subst h
  intro y b ml rt stc ci hs h
  cases h
  exact ⟨Or.inl rfl, K73⟩
theorem ck74 (k : Nat) (h : k = 74) : OKk k := by
  subst h
  intro y b ml rt stc ci hs h
  cases h
  exact ⟨Or.inr (Or.inr rfl), K74⟩
theorem ck75 (k : Nat) (h : k = 75) : OKk k := by
  subst h
  intro y b ml rt stc ci hs h
  cases h
  exact ⟨Or.inl rfl, K75⟩
theorem ck76 (k : Nat) (h : k = 76) : OKk k := by
  subst h
  intro y b ml rt stc ci hs h
  cases h
  exact ⟨Or.inl rfl, K76⟩
theorem ck77 (k : Nat) (h : k = 77) : OKk k := by
  subst h
  intro y b ml rt stc ci hs h
  cases h
  exact ⟨Or.inl rfl, K77⟩
theorem ck78 (k : Nat) (h : k = 78) : OKk k := by
  subst h
  intro y b ml rt stc ci hs h
  cases h
  exact ⟨Or.inl rfl, K78⟩
theorem ck79 (k : Nat) (h : k = 79) : OKk k := by
  subst h
  intro y b ml rt stc ci hs h
  cases h
  exact ⟨Or.inl rfl, K79⟩
theorem ck80 (k : Nat) (h : k = 80) : OKk k := by
  subst h
  intro y b ml rt stc ci hs h
  cases h
  exact ⟨Or.inl rfl, K80⟩
theorem ck81 (k : Nat) (h : k = 81) : OKk k := by
  subst h
  intro y b ml rt stc ci hs h
  cases h
  exact ⟨Or.inr (Or.inl rfl), K81⟩
theorem ck82 (k : Nat) (h : k = 82) : OKk k := by
  subst h
  intro y b ml rt stc ci hs h
  cases h
  exact ⟨Or.inr (Or.inl rfl), K82⟩
theorem ck83 (k : Nat) (h : k = 83) : OKk k := by
  subst h
  intro y b ml rt stc ci hs h
  cases h
  exact ⟨Or.inr (Or.inl rfl), K83⟩
theorem ck84 (k : Nat) (h : k = 84) : OKk k := by
  subst h
  intro y b ml rt stc ci hs h
  cases h
  exact ⟨Or.inr (Or.inl rfl), K84⟩
theorem ck85 (k : Nat) (h : k = 85) : OKk k := by
  subst h
  intro y b ml rt stc ci hs h
  cases h
  exact ⟨Or.inr (Or.inl rfl), K85⟩
theorem ck86 (k : Nat) (h : k = 86) : OKk k := by
  subst h
  intro y b ml rt stc ci hs h
  cases h
  exact ⟨Or.inr (Or.inl rfl), K86⟩
theorem ck87 (k : Nat) (h : k = 87) : OKk k := by
  subst h
  intro y b ml rt stc ci hs h
  cases h
  exact ⟨Or.inr (Or.inl rfl), K87⟩
theorem ck88 (k : Nat) (h : k = 88) : OKk k := by
  subst h
  intro y b ml rt stc ci hs h
  cases h
  exact ⟨Or.inr (Or.inl rfl), K88⟩
theorem ck89 (k : Nat) (h : k = 89) : OKk k := by
  subst h
  intro y b ml rt stc ci hs h
  cases h
  exact ⟨Or.inr (Or.inl rfl), K89⟩
theorem ck90 (k : Nat) (h : k = 90) : OKk k := by
  subst h
  intro y b ml rt stc ci hs h
  cases h
  exact ⟨Or.inr (Or.inl rfl), K90⟩
theorem ck91 (k : Nat) (h : k = 91) : OKk k := by
  subst h
  intro y b ml rt stc ci hs h
  cases h
  exact ⟨Or.inr (Or.inl rfl), K91⟩
theorem ck92 (k : Nat) (h : k = 92) : OKk k := by
  subst h
  intro y b ml rt stc ci hs h
  cases h
  exact ⟨Or.inr (Or.inl rfl), K92⟩
theorem ck93 (k : Nat) (h : k = 93) : OKk k := by
  subst h
  intro y b ml rt stc ci hs h
  cases h
  exact ⟨Or.inr (Or.inl rfl), K93⟩
theorem ck94 (k : Nat) (h : k = 94) : OKk k := by
  subst h
  intro y b ml rt stc ci hs h
  cases h
  exact ⟨Or.inr (Or.inl rfl), K94⟩
theorem ck95 (k : Nat) (h : k = 95) : OKk k := by
  subst h
  intro y b ml rt stc ci hs h
  cases h
  exact ⟨Or.inr (Or.inl rfl), K95⟩
theorem ck96 (k : Nat) (h : k = 96) : OKk k := by
  subst h
  intro y b ml rt stc ci hs h
  cases h
  exact ⟨Or.inr (Or.inl rfl), K96⟩
theorem ck97 (k : Nat) (h : k = 97) : OKk k := by
  subst h
  intro y b ml rt stc ci hs h
  cases h
  exact ⟨Or.inr (Or.inl rfl), K97⟩
theorem ck98 (k : Nat) (h : k = 98) : OKk k := by
  subst h
  intro y b ml rt stc ci hs h
  cases h
  exact ⟨Or.inr (Or.inl rfl), K98⟩
theorem ck99 (k : Nat) (h : k = 99) : OKk k := by
  subst h
  intro y b ml rt stc ci hs h
  cases h
  exact ⟨Or.inr (Or.inl rfl), K99⟩
theorem ck100 (k : Nat) (h : k = 100) : OKk k := by
  subst h
  intro y b ml rt stc ci hs h
  cases h
  exact ⟨Or.inr (Or.inl rfl), K100⟩
theorem ck101 (k : Nat) (h : k = 101) : OKk k := by
  subst h
  intro y b ml rt stc ci hs h
  cases h
  exact ⟨Or.inr (Or.inl rfl), K101⟩
theorem ck102 (k : Nat) (h : k = 102) : OKk k := by
  subst h
  intro y b ml rt stc ci hs h
  cases h
  exact ⟨Or.inr (Or.inl rfl), K102⟩
theorem ck103 (k : Nat) (h : k = 103) : OKk k := by
  subst h
  intro y b ml rt stc ci hs h
  cases h
  exact ⟨Or.inr (Or.inl rfl), K103⟩
theorem ck104 (k : Nat) (h : k = 104) : OKk k := by
  subst h
  intro y b ml rt stc ci hs h
  cases h
  exact ⟨Or.inr (Or.inl rfl), K104⟩
theorem ck105 (k : Nat) (h : k = 105) : OKk k := by
  subst h
  intro y b ml rt stc ci hs h
  cases h
  exact ⟨Or.inr (Or.inl rfl), K105⟩
theorem ck106 (k : Nat) (h : k = 106) : OKk k := by
  subst h
  intro y b ml rt stc ci hs h
  cases h
  exact ⟨Or.inr (Or.inl rfl), K106⟩
theorem ck107 (k : Nat) (h : k = 107) : OKk k := by
  subst h
  intro y b ml rt stc ci hs h
  cases h
  exact ⟨Or.inr (Or.inl rfl), K107⟩
theorem ck108 (k : Nat) (h : k = 108) : OKk k := by
  subst h
  intro y b ml rt stc ci hs h
  cases h
  exact ⟨Or.inr (Or.inl rfl), K108⟩
theorem ck109 (k : Nat) (h : k = 109) : OKk k := by
  subst h
  intro y b ml rt stc ci hs h
  cases h
  exact ⟨Or.inr (Or.inl rfl), K109⟩
theorem ck110 (k : Nat) (h : k = 110) : OKk k := by
  subst h
  intro y b ml rt stc ci hs h
  cases h
  exact ⟨Or.inr (Or.inl rfl), K110⟩
theorem ck111 (k : Nat) (h : k = 111) : OKk k := by
  subst h
  intro y b ml rt stc ci hs h
  cases h
  exact ⟨Or.inr (Or.inl rfl), K111⟩
theorem ck112 (k : Nat) (h : k = 112) : OKk k := by
  subst h
  intro y b ml rt stc ci hs h
  cases h
  exact ⟨Or.inr (Or.inl rfl), K112⟩
theorem ck113 (k : Nat) (h : k = 113) : OKk k := by
  subst h
  intro y b ml rt stc ci hs h
  cases h
  exact ⟨Or.inr (Or.inl rfl), K113⟩
theorem ck114 (k : Nat) (h : k = 114) : OKk k := by
  subst h
  intro y b ml rt stc ci hs h
  cases h
  exact ⟨Or.inr (Or.inl rfl), K114⟩
theorem ck115 (k : Nat) (h : k = 115) : OKk k := by
  subst h
  intro y b ml rt stc ci hs h
  cases h
  exact ⟨Or.inr (Or.inl rfl), K115⟩
theorem ck116 (k : Nat) (h : k = 116) : OKk k := by
  subst h
  intro y b ml rt stc ci hs h
  cases h
  exact ⟨Or.inr (Or.inl rfl), K116⟩
theorem ck117 (k : Nat) (h : k = 117) : OKk k := by
  subst h
  intro y b ml rt stc ci hs h
  cases h
  exact ⟨Or.inr (Or.inl rfl), K117⟩
theorem ck118 (k : Nat) (h : k = 118) : OKk k := by
  subst h
  intro y b ml rt stc ci hs h
  cases h
  exact ⟨Or.inr (Or.inl rfl), K118⟩
theorem ck119 (k : Nat) (h : k = 119) : OKk k := by
  subst h
  intro y b ml rt stc ci hs h
  cases h
  exact ⟨Or.inr (Or.inl rfl), K119⟩
theorem ck120 (k : Nat) (h : k = 120) : OKk k := by
  subst h
  intro y b ml rt stc ci hs h
  cases h
  exact ⟨Or.inr (Or.inl rfl), K120⟩
theorem ck121 (k : Nat) (h : k = 121) : OKk k := by
  subst h
  intro y b ml rt stc ci hs h
  cases h
  exact ⟨Or.inr (Or.inl rfl), K121⟩
theorem ck122 (k : Nat) (h : k = 122) : OKk k := by
  subst h
  intro y b ml rt stc ci hs h
  cases h
  exact ⟨Or.inr (Or.inr rfl), K122⟩
theorem ck123 (k : Nat) (h : k = 123) : OKk k := by
  subst h
  intro y b ml rt stc ci hs h
  cases h
  exact ⟨Or.inr (Or.inl rfl), K123⟩
theorem ck124 (k : Nat) (h : k = 124) : OKk k := by
  subst h
  intro y b ml rt stc ci hs h
  cases h
  exact ⟨Or.inr (Or.inl rfl), K124⟩
theorem ck125 (k : Nat) (h : k = 125) : OKk k := by
  subst h
  intro y b ml rt stc ci hs h
  cases h
  exact ⟨Or.inr (Or.inl rfl), K125⟩
theorem ck126 (k : Nat) (h : k = 126) : OKk k := by
  subst h
  intro y b ml rt stc ci hs h
  cases h
  exact ⟨Or.inr (Or.inl rfl), K126⟩
theorem ck127 (k : Nat) (h : k = 127) : OKk k := by
  subst h
  intro y b ml rt stc ci hs h
  cases h
  exact ⟨Or.inr (Or.inr rfl), K127⟩
theorem ck128 (k : Nat) (h : k = 128) : OKk k := by
  subst h
  intro y b ml rt stc ci hs h
  cases h
  exact ⟨Or.inl rfl, K128⟩
theorem ck129 (k : Nat) (h : k = 129) : OKk k := by
  subst h
  intro y b ml rt stc ci hs h
  cases h
  exact ⟨Or.inl rfl, K129⟩
theorem ck130 (k : Nat) (h : k = 130) : OKk k := by
  subst h
  intro y b ml rt stc ci hs h
  cases h
  exact ⟨Or.inl rfl, K130⟩
theorem ck131 (k : Nat) (h : k = 131) : OKk k := by
  subst h
  intro y b ml rt stc ci hs h
  cases h
  exact ⟨Or.inr (Or.inr rfl), K131⟩
theorem ck132 (k : Nat) (h : k = 132) : OKk k := by
  subst h
  intro y b ml rt stc ci hs h
  cases h
  exact ⟨Or.inr (Or.inl rfl), K132⟩
theorem ck133 (k : Nat) (h : k = 133) : OKk k := by
  subst h
  intro y b ml rt stc ci hs h
  cases h
  exact ⟨Or.inr (Or.inl rfl), K133⟩
theorem ck134 (k : Nat) (h : k = 134) : OKk k := by
  subst h
  intro y b ml rt stc ci hs h
  cases h
  exact ⟨Or.inl rfl, K134⟩
theorem ck135 (k : Nat) (h : k = 135) : OKk k := by
  subst h
  intro y b ml rt stc ci hs h
  cases h
  exact ⟨Or.inl rfl, K135⟩
theorem ck136 (k : Nat) (h : k = 136) : OKk k := by
  subst h
  intro y b ml rt stc ci hs h
  cases h
  exact ⟨Or.inr (Or.inl rfl), K136⟩
theorem ck137 (k : Nat) (h : k = 137) : OKk k := by
  subst h
  intro y b ml rt stc ci hs h
  cases h
  exact ⟨Or.inr (Or.inl rfl), K137⟩
theorem ck138 (k : Nat) (h : k = 138) : OKk k := by
  subst h
  intro y b ml rt stc ci hs h
  cases h
  exact ⟨Or.inl rfl, K138⟩
theorem ck139 (k : Nat) (h : k = 139) : OKk k := by
  subst h
  intro y b ml rt stc ci hs h
  cases h
  exact ⟨Or.inl rfl, K139⟩
theorem ck140 (k : Nat) (h : k = 140) : OKk k := by
  subst h
  intro y b ml rt stc ci hs h
  cases h
  exact ⟨Or.inl rfl, K140⟩
theorem ck141 (k : Nat) (h : k = 141) : OKk k := by
  subst h
  intro y b ml rt stc ci hs h
  cases h
  exact ⟨Or.inr (Or.inl rfl), K141⟩
theorem ck142 (k : Nat) (h : k = 142) : OKk k := by
  subst h
  intro y b ml rt stc ci hs h
  cases h
  exact ⟨Or.inr (Or.inl rfl), K142⟩
theorem ck143 (k : Nat) (h : k = 143) : OKk k := by
  subst h
  intro y b ml rt stc ci hs h
  cases h
  exact ⟨Or.inr (Or.inl rfl), K143⟩
theorem ck144 (k : Nat) (h : k = 144) : OKk k := by
  subst h
  intro y b ml rt stc ci hs h
  cases h
  exact ⟨Or.inr (Or.inl rfl), K144⟩
theorem ck145 (k : Nat) (h : k = 145) : OKk k := by
  subst h
  intro y b ml rt stc ci hs h
  cases h
  exact ⟨Or.inr (Or.inl rfl), K145⟩
theorem ck146 (k : Nat) (h : k = 146) : OKk k := by
  subst h
  intro y b ml rt stc ci hs h
  cases h
  exact ⟨Or.inr (Or.inl rfl), K146⟩
theorem ck147 (k : Nat) (h : k = 147) : OKk k := by
  subst h
  intro y b ml rt stc ci hs h
  cases h
  exact ⟨Or.inr (Or.inl rfl), K147⟩
theorem ck148 (k : Nat) (h : k = 148) : OKk k := by
  subst h
  intro y b ml rt stc ci hs h
  cases h
  exact ⟨Or.inr (Or.inl rfl), K148⟩
theorem ck149 (k : Nat) (h : k = 149) : OKk k := by
  subst h
  intro y b ml rt stc ci hs h
  cases h
  exact ⟨Or.inr (Or.inr rfl), K149⟩
theorem ck150 (k : Nat) (h : k = 150) : OKk k := by
  subst h
  intro y b ml rt stc ci hs h
  cases h
  exact ⟨Or.inr (Or.inl rfl), K150⟩
theorem ck151 (k : Nat) (h : k = 151) : OKk k := by
  subst h
  intro y b ml rt stc ci hs h
  cases h
  exact ⟨Or.inr (Or.inl rfl), K151⟩
theorem ck152 (k : Nat) (h : k = 152) : OKk k := by
  subst h
  intro y b ml rt stc ci hs h
  cases h
  exact ⟨Or.inl rfl, K152⟩
theorem ck153 (k : Nat) (h : k = 153) : OKk k := by
  subst h
  intro y b ml rt stc ci hs h
  cases h
  exact ⟨Or.inl rfl, K153⟩
theorem ck154 (k : Nat) (h : k = 154) : OKk k := by
  subst h
  intro y b ml rt stc ci hs h
  cases h
  exact ⟨Or.inl rfl, K154⟩
theorem ck155 (k : Nat) (h : k = 155) : OKk k := by
  subst h
  intro y b ml rt stc ci hs h
  cases h
  exact ⟨Or.inl rfl, K155⟩
theorem ck156 (k : Nat) (h : k = 156) : OKk k := by
  subst h
  intro y b ml rt stc ci hs h
  cases h
  exact ⟨Or.inl rfl, K156⟩
theorem ck157 (k : Nat) (h : k = 157) : OKk k := by
  subst h
  intro y b ml rt stc ci hs h
  cases h
  exact ⟨Or.inl rfl, K157⟩
theorem ck158 (k : Nat) (h : k = 158) : OKk k := by
  subst h
  intro y b ml rt stc ci hs h
  cases h
  exact ⟨Or.inr (Or.inl rfl), K158⟩
theorem ck159 (k : Nat) (h : k = 159) : OKk k := by
  subst h
  intro y b ml rt stc ci hs h
  cases h
  exact ⟨Or.inl rfl, K159⟩
theorem ck160 (k : Nat) (h : k = 160) : OKk k := by
  subst h
  intro y b ml rt stc ci hs h
  cases h
  exact ⟨Or.inl rfl, K160⟩
theorem ck161 (k : Nat) (h : k = 161) : OKk k := by
  subst h
  intro y b ml rt stc ci hs h
  cases h
  exact ⟨Or.inl rfl, K161⟩
theorem ck162 (k : Nat) (h : k = 162) : OKk k := by
  subst h
  intro y b ml rt stc ci hs h
  cases h
  exact ⟨Or.inr (Or.inl rfl), K162⟩
theorem ck163 (k : Nat) (h : k = 163) : OKk k := by
  subst h
  intro y b ml rt stc ci hs h
  cases h
  exact ⟨Or.inr (Or.inl rfl), K163⟩
theorem ck164 (k : Nat) (h : k = 164) : OKk k := by
  subst h
  intro y b ml rt stc ci hs h
  cases h
  exact ⟨Or.inr (Or.inl rfl), K164⟩
theorem ck165 (k : Nat) (h : k = 165) : OKk k := by
  subst h
  intro y b ml rt stc ci hs h
  cases h
  exact ⟨Or.inl rfl, K165⟩
theorem ck166 (k : Nat) (h : k = 166) : OKk k := by
  subst h
  intro y b ml rt stc ci hs h
  cases h
  exact ⟨Or.inr (Or.inl rfl), K166⟩
theorem ck167 (k : Nat) (h : k = 167) : OKk k := by
  subst h
  intro y b ml rt stc ci hs h
  cases h
  exact ⟨Or.inr (Or.inl rfl), K167⟩
theorem ck168 (k : Nat) (h : k = 168) : OKk k := by
  subst h
  intro y b ml rt stc ci hs h
  cases h
  exact ⟨Or.inr (Or.inl rfl), K168⟩
theorem ck169 (k : Nat) (h : k = 169) : OKk k := by
  subst h
  intro y b ml rt stc ci hs h
  cases h
  exact ⟨Or.inr (Or.inl rfl), K169⟩
theorem ck170 (k : Nat) (h : k = 170) : OKk k := by
  subst h
  intro y b ml rt stc ci hs h
  cases h
  exact ⟨Or.inr (Or.inl rfl), K170⟩
theorem ck171 (k : Nat) (h : k = 171) : OKk k := by
  subst h
  intro y b ml rt stc ci hs h
  cases h
  exact ⟨Or.inr (Or.inl rfl), K171⟩
theorem ck172 (k : Nat) (h : k = 172) : OKk k := by
  subst h
  intro y b ml rt stc ci hs h
  cases h
  exact ⟨Or.inr (Or.inl rfl), K172⟩
theorem ck173 (k : Nat) (h : k = 173) : OKk k := by
  subst h
  intro y b ml rt stc ci hs h
  cases h
  exact ⟨Or.inl rfl, K173⟩
theorem ck174 (k : Nat) (h : k = 174) : OKk k := by
  subst h
  intro y b ml rt stc ci hs h
  cases h
  exact ⟨Or.inl rfl, K174⟩
theorem ck175 (k : Nat) (h : k = 175) : OKk k := by
  subst h
  intro y b ml rt stc ci hs h
  cases h
  exact ⟨Or.inr (Or.inl rfl), K175⟩
theorem ck176 (k : Nat) (h : k = 176) : OKk k := by
  subst h
  intro y b ml rt stc ci hs h
  cases h
  exact ⟨Or.inl rfl, K176⟩
theorem ck177 (k : Nat) (h : k = 177) : OKk k := by
  subst h
  intro y b ml rt stc ci hs h
  cases h
  exact ⟨Or.inl rfl, K177⟩
theorem ck178 (k : Nat) (h : k = 178) : OKk k := by
  subst h
  intro y b ml rt stc ci hs h
  cases h
  exact ⟨Or.inr (Or.inr rfl), K178⟩
theorem ck179 (k : Nat) (h : k = 179) : OKk k := by
  subst h
  intro y b ml rt stc ci hs h
  cases h
  exact ⟨Or.inr (Or.inl rfl), K179⟩
theorem ck180 (k : Nat) (h : k = 180) : OKk k := by
  subst h
  intro y b ml rt stc ci hs h
  cases h
  exact ⟨Or.inr (Or.inl rfl), K180⟩
theorem ck181 (k : Nat) (h : k = 181) : OKk k := by
  subst h
  intro y b ml rt stc ci hs h
  cases h
  exact ⟨Or.inr (Or.inl rfl), K181⟩
theorem ck182 (k : Nat) (h : k = 182) : OKk k := by
  subst h
  intro y b ml rt stc ci hs h
  cases h
  exact ⟨Or.inr (Or.inl rfl), K182⟩
theorem ck183 (k : Nat) (h : k = 183) : OKk k := by
  subst h
  intro y b ml rt stc ci hs h
  cases h
  exact ⟨Or.inr (Or.inl rfl), K183⟩
theorem ck184 (k : Nat) (h : k = 184) : OKk k := by
  subst h
  intro y b ml rt stc ci hs h
  cases h
  exact ⟨Or.inr (Or.inl rfl), K184⟩
theorem ck185 (k : Nat) (h : k = 185) : OKk k := by
  subst h
  intro y b ml rt stc ci hs h
  cases h
  exact ⟨Or.inr (Or.inl rfl), K185⟩
theorem ck186 (k : Nat) (h : k = 186) : OKk k := by
  subst h
  intro y b ml rt stc ci hs h
  cases h
  exact ⟨Or.inr (Or.inl rfl), K186⟩
theorem ck187 (k : Nat) (h : k = 187) : OKk k := by
  subst h
  intro y b ml rt stc ci hs h
  cases h
  exact ⟨Or.inr (Or.inl rfl), K187⟩
theorem ck188 (k : Nat) (h : k = 188) : OKk k := by
  subst h
  intro y b ml rt stc ci hs h
  cases h
  exact ⟨Or.inr (Or.inl rfl), K188⟩
theorem ck189 (k : Nat) (h : k = 189) : OKk k := by
  subst h
  intro y b ml rt stc ci hs h
  cases h
  exact ⟨Or.inr (Or.inl rfl), K189⟩
theorem ck190 (k : Nat) (h : k = 190) : OKk k := by
  subst h
  intro y b ml rt stc ci hs h
  cases h
  exact ⟨Or.inr (Or.inl rfl), K190⟩
theorem ck191 (k : Nat) (h : k = 191) : OKk k := by
  subst h
  intro y b ml rt stc ci hs h
  cases h
  exact ⟨Or.inr (Or.inl rfl), K191⟩
theorem ck192 (k : Nat) (h : k = 192) : OKk k := by
  subst h
  intro y b ml rt stc ci hs h
  cases h
  exact ⟨Or.inr (Or.inl rfl), K192⟩
theorem ck193 (k : Nat) (h : k = 193) : OKk k := by
  subst h
  intro y b ml rt stc ci hs h
  cases h
  exact ⟨Or.inr (Or.inl rfl), K193⟩
theorem ck194 (k : Nat) (h : k = 194) : OKk k := by
  subst h
  intro y b ml rt stc ci hs h
  cases h
  exact ⟨Or.inr (Or.inl rfl), K194⟩
theorem ck195 (k : Nat) (h : k = 195) : OKk k := by
  subst h
  intro y b ml rt stc ci hs h
  cases h
  exact ⟨Or.inr (Or.inl rfl), K195⟩
theorem ck196 (k : Nat) (h : k = 196) : OKk k := by
  subst h
  intro y b ml rt stc ci hs h
  cases h
  exact ⟨Or.inr (Or.inl rfl), K196⟩
theorem ck197 (k : Nat) (h : k = 197) : OKk k := by
  subst h
  intro y b ml rt stc ci hs h
  cases h
  exact ⟨Or.inr (Or.inl rfl), K197⟩
theorem ck198 (k : Nat) (h : k = 198) : OKk k := by
  subst h
  intro y b ml rt stc ci hs h
  cases h
  exact ⟨Or.inr (Or.inl rfl), K198⟩
theorem ck199 (k : Nat) (h : k = 199) : OKk k := by
  subst h
  intro y b ml rt stc ci hs h
  cases h
  exact ⟨Or.inr (Or.inl rfl), K199⟩
theorem ck200 (k : Nat) (h : k = 200) : OKk k := by
  subst h
  intro y b ml rt stc ci hs h
  cases h
  exact ⟨Or.inr (Or.inl rfl), K200⟩
theorem ck201 (k : Nat) (h : k = 201) : OKk k := by
  subst h
  intro y b ml rt stc ci hs h
  cases h
  exact ⟨Or.inl rfl, K201⟩
theorem ck202 (k : Nat) (h : k = 202) : OKk k := by
  subst h
  intro y b ml rt stc ci hs h
  cases h
  exact ⟨Or.inl rfl, K202⟩
theorem ck203 (k : Nat) (h : k = 203) : OKk k := by
  subst h
  intro y b ml rt stc ci hs h
  cases h
  exact ⟨Or.inr (Or.inl rfl), K203⟩
theorem ck204 (k : Nat) (h : k = 204) : OKk k := by
  subst h
  intro y b ml rt stc ci hs h
  cases h
  exact ⟨Or.inr (Or.inl rfl), K204⟩
theorem ck205 (k : Nat) (h : k = 205) : OKk k := by
  subst h
  intro y b ml rt stc ci hs h
  cases h
  exact ⟨Or.inr (Or.inl rfl), K205⟩
theorem ck206 (k : Nat) (h : k = 206) : OKk k := by
  subst h
  intro y b ml rt stc ci hs h
  cases h
  exact ⟨Or.inr (Or.inl rfl), K206⟩
theorem ck207 (k : Nat) (h : k = 207) : OKk k := by
  subst h
  intro y b ml rt stc ci hs h
  cases h
  exact ⟨Or.inr (Or.inl rfl), K207⟩
theorem ck208 (k : Nat) (h : k = 208) : OKk k := by
  subst h
  intro y b ml rt stc ci hs h
  cases h
  exact ⟨Or.inl rfl, K208⟩
theorem ck209 (k : Nat) (h : k = 209) : OKk k := by
  subst h
  intro y b ml rt stc ci hs h
  cases h
  exact ⟨Or.inr (Or.inl rfl), K209⟩
theorem ck210 (k : Nat) (h : k = 210) : OKk k := by
  subst h
  intro y b ml rt stc ci hs h
  cases h
  exact ⟨Or.inr (Or.inl rfl), K210⟩
theorem ck211 (k : Nat) (h : k = 211) : OKk k := by
  subst h
  intro y b ml rt stc ci hs h
  cases h
  exact ⟨Or.inr (Or.inl rfl), K211⟩
theorem ck212 (k : Nat) (h : k = 212) : OKk k := by
  subst h
  intro y b ml rt stc ci hs h
  cases h
  exact ⟨Or.inl rfl, K212⟩
theorem ck213 (k : Nat) (h : k = 213) : OKk k := by
  subst h
  intro y b ml rt stc ci hs h
  cases h
  exact ⟨Or.inl rfl, K213⟩
theorem ck214 (k : Nat) (h : k = 214) : OKk k := by
  subst h
  intro y b ml rt stc ci hs h
  cases h
  exact ⟨Or.inr (Or.inl rfl), K214⟩
theorem ck215 (k : Nat) (h : k = 215) : OKk k := by
  subst h
  intro y b ml rt stc ci hs h
  cases h
  exact ⟨Or.inr (Or.inr rfl), K215⟩
theorem ck216 (k : Nat) (h : k = 216) : OKk k := by
  subst h
  intro y b ml rt stc ci hs h
  cases h
  exact ⟨Or.inr (Or.inl rfl), K216⟩
theorem ck217 (k : Nat) (h : k = 217) : OKk k := by
  subst h
  intro y b ml rt stc ci hs h
  cases h
  exact ⟨Or.inr (Or.inl rfl), K217⟩
theorem ck218 (k : Nat) (h : k = 218) : OKk k := by
  subst h
  intro y b ml rt stc ci hs h
  cases h
  exact ⟨Or.inr (Or.inl rfl), K218⟩
theorem ck219 (k : Nat) (h : k = 219) : OKk k := by
  subst h
  intro y b ml rt stc ci hs h
  cases h
  exact ⟨Or.inr (Or.inl rfl), K219⟩
theorem ck220 (k : Nat) (h : k = 220) : OKk k := by
  subst h
  intro y b ml rt stc ci hs h
  cases h
  exact ⟨Or.inr (Or.inl rfl), K220⟩
theorem ck221 (k : Nat) (h : k = 221) : OKk k := by
  subst h
  intro y b ml rt stc ci hs h
  cases h
  exact ⟨Or.inl rfl, K221⟩
theorem ck222 (k : Nat) (h : k = 222) : OKk k := by
  subst h
  intro y b ml rt stc ci hs h
  cases h
  exact ⟨Or.inr (Or.inl rfl), K222⟩
theorem ck223 (k : Nat) (h : k = 223) : OKk k := by
  subst h
  intro y b ml rt stc ci hs h
  cases h
  exact ⟨Or.inr (Or.inl rfl), K223⟩
theorem ck224 (k : Nat) (h : k = 224) : OKk k := by
  subst h
  intro y b ml rt stc ci hs h
  cases h
  exact ⟨Or.inr (Or.inl rfl), K224⟩
theorem ck225 (k : Nat) (h : k = 225) : OKk k := by
  subst h
  intro y b ml rt stc ci hs h
  cases h
  exact ⟨Or.inr (Or.inl rfl), K225⟩
theorem ck226 (k : Nat) (h : k = 226) : OKk k := by
  subst h
  intro y b ml rt stc ci hs h
  cases h
  exact ⟨Or.inr (Or.inl rfl), K226⟩
theorem code_ok : CodeOK CODE := by
  intro k y b ml rt stc ci hs h
  have hk : k < 227 := (List.getElem?_eq_some_iff.mp h).1
  exact (show OKk k from if hh : k ≤ 113 then (if hh : k ≤ 56 then (if hh : k ≤ 28 then (if hh : k ≤ 14 then (if hh : k ≤ 7 then (if hh : k ≤ 3 then (if hh : k ≤ 1 then (if hh : k ≤ 0 then (ck0 k (by omega)) else (ck1 k (by omega))) else (if hh : k ≤ 2 then (ck2 k (by omega)) else (ck3 k (by omega)))) else (if hh : k ≤ 5 then (if hh : k ≤ 4 then (ck4 k (by omega)) else (ck5 k (by omega))) else (if hh : k ≤ 6 then (ck6 k (by omega)) else (ck7 k (by omega))))) else (if hh : k ≤ 11 then (if hh : k ≤ 9 then (if hh : k ≤ 8 then (ck8 k (by omega)) else (ck9 k (by omega))) else (if hh : k ≤ 10 then (ck10 k (by omega)) else (ck11 k (by omega)))) else (if hh : k ≤ 13 then (if hh : k ≤ 12 then (ck12 k (by omega)) else (ck13 k (by omega))) else (ck14 k (by omega))))) else (if hh : k ≤ 21 then (if hh : k ≤ 18 then (if hh : k ≤ 16 then (if hh : k ≤ 15 then (ck15 k (by omega)) else (ck16 k (by omega))) else (if hh : k ≤ 17 then (ck17 k (by omega)) else (ck18 k (by omega)))) else (if hh : k ≤ 20 then (if hh : k ≤ 19 then (ck19 k (by omega)) else (ck20 k (by omega))) else (ck21 k (by omega)))) else (if hh : k ≤ 25 then (if hh : k ≤ 23 then (if hh : k ≤ 22 then (ck22 k (by omega)) else (ck23 k (by omega))) else (if hh : k ≤ 24 then (ck24 k (by omega)) else (ck25 k (by omega)))) else (if hh : k ≤ 27 then (if hh : k ≤ 26 then (ck26 k (by omega)) else (ck27 k (by omega))) else (ck28 k (by omega)))))) else (if hh : k ≤ 42 then (if hh : k ≤ 35 then (if hh : k ≤ 32 then (if hh : k ≤ 30 then (if hh : k ≤ 29 then (ck29 k (by omega)) else (ck30 k (by omega))) else (if hh : k ≤ 31 then (ck31 k (by omega)) else (ck32 k (by omega)))) else (if hh : k ≤ 34 then (if hh : k ≤ 33 then (ck33 k (by omega)) else (ck34 k (by omega))) else (ck35 k (by omega)))) else (if hh : k ≤ 39 then (if hh : k ≤ 37 then (if hh : k ≤ 36 then (ck36 k (by omega)) else (ck37 k (by omega))) else (if hh : k ≤ 38 then (ck38 k (by omega)) else (ck39 k (by omega)))) else (if hh : k ≤ 41 then (if hh : k ≤ 40 then (ck40 k (by omega)) else (ck41 k (by omega))) else (ck42 k (by omega))))) else (if hh : k ≤ 49 then (if hh : k ≤ 46 then (if hh : k ≤ 44 then (if hh : k ≤ 43 then (ck43 k (by omega)) else (ck44 k (by omega))) else (if hh : k ≤ 45 then (ck45 k (by omega)) else (ck46 k (by omega)))) else (if hh : k ≤ 48 then (if hh : k ≤ 47 then (ck47 k (by omega)) else (ck48 k (by omega))) else (ck49 k (by omega)))) else (if hh : k ≤ 53 then (if hh : k ≤ 51 then (if hh : k ≤ 50 then (ck50 k (by omega)) else (ck51 k (by omega))) else (if hh : k ≤ 52 then (ck52 k (by omega)) else (ck53 k (by omega)))) else (if hh : k ≤ 55 then (if hh : k ≤ 54 then (ck54 k (by omega)) else (ck55 k (by omega))) else (ck56 k (by omega))))))) else (if hh : k ≤ 85 then (if hh : k ≤ 71 then (if hh : k ≤ 64 then (if hh : k ≤ 60 then (if hh : k ≤ 58 then (if hh : k ≤ 57 then (ck57 k (by omega)) else (ck58 k (by omega))) else (if hh : k ≤ 59 then (ck59 k (by omega)) else (ck60 k (by omega)))) else (if hh : k ≤ 62 then (if hh : k ≤ 61 then (ck61 k (by omega)) else (ck62 k (by omega))) else (if hh : k ≤ 63 then (ck63 k (by omega)) else (ck64 k (by omega))))) else (if hh : k ≤ 68 then (if hh : k ≤ 66 then (if hh : k ≤ 65 then (ck65 k (by omega)) else (ck66 k (by omega))) else (if hh : k ≤ 67 then (ck67 k (by omega)) else (ck68 k (by omega)))) else (if hh : k ≤ 70 then (if hh : k ≤ 69 then (ck69 k (by omega)) else (ck70 k (by omega))) else (ck71 k (by omega))))) else (if hh : k ≤ 78 then (if hh : k ≤ 75 then (if hh : k ≤ 73 then (if hh : k ≤ 72 then (ck72 k (by omega)) else (ck73 k (by omega))) else (if hh : k ≤ 74 then (ck74 k (by omega)) else (ck75 k (by omega)))) else (if hh : k ≤ 77 then (if hh : k ≤ 76 then (ck76 k (by omega)) else (ck77 k (by omega))) else (ck78 k (by omega)))) else (if hh : k ≤ 82 then (if hh : k ≤ 80 then (if hh : k ≤ 79 then (ck79 k (by omega)) else (ck80 k (by omega))) else (if hh : k ≤ 81 then (ck81 k (by omega)) else (ck82 k (by omega)))) else (if hh : k ≤ 84 then (if hh : k ≤ 83 then (ck83 k (by omega)) else (ck84 k (by omega))) else (ck85 k (by omega)))))) else (if hh : k ≤ 99 then (if hh : k ≤ 92 then (if hh : k ≤ 89 then (if hh : k ≤ 87 then (if hh : k ≤ 86 then (ck86 k (by omega)) else (ck87 k (by omega))) else (if hh : k ≤ 88 then (ck88 k (by omega)) else (ck89 k (by omega)))) else (if hh : k ≤ 91 then (if hh : k ≤ 90 then (ck90 k (by omega)) else (ck91 k (by omega))) else (ck92 k (by omega)))) else (if hh : k ≤ 96 then (if hh : k ≤ 94 then (if hh : k ≤ 93 then (ck93 k (by omega)) else (ck94 k (by omega))) else (if hh : k ≤ 95 then (ck95 k (by omega)) else (ck96 k (by omega)))) else (if hh : k ≤ 98 then (if hh : k ≤ 97 then (ck97 k (by omega)) else (ck98 k (by omega))) else (ck99 k (by omega))))) else (if hh : k ≤ 106 then (if hh : k ≤ 103 then (if hh : k ≤ 101 then (if hh : k ≤ 100 then (ck100 k (by omega)) else (ck101 k (by omega))) else (if hh : k ≤ 102 then (ck102 k (by omega)) else (ck103 k (by omega)))) else (if hh : k ≤ 105 then (if hh : k ≤ 104 then (ck104 k (by omega)) else (ck105 k (by omega))) else (ck106 k (by omega)))) else (if hh : k ≤ 110 then (if hh : k ≤ 108 then (if hh : k ≤ 107 then (ck107 k (by omega)) else (ck108 k (by omega))) else (if hh : k ≤ 109 then (ck109 k (by omega)) else (ck110 k (by omega)))) else (if hh : k ≤ 112 then (if hh : k ≤ 111 then (ck111 k (by omega)) else (ck112 k (by omega))) else (ck113 k (by omega)))))))) else (if hh : k ≤ 170 then (if hh : k ≤ 142 then (if hh : k ≤ 128 then (if hh : k ≤ 121 then (if hh : k ≤ 117 then (if hh : k ≤ 115 then (if hh : k ≤ 114 then (ck114 k (by omega)) else (ck115 k (by omega))) else (if hh : k ≤ 116 then (ck116 k (by omega)) else (ck117 k (by omega)))) else (if hh : k ≤ 119 then (if hh : k ≤ 118 then (ck118 k (by omega)) else (ck119 k (by omega))) else (if hh : k ≤ 120 then (ck120 k (by omega)) else (ck121 k (by omega))))) else (if hh : k ≤ 125 then (if hh : k ≤ 123 then (if hh : k ≤ 122 then (ck122 k (by omega)) else (ck123 k (by omega))) else (if hh : k ≤ 124 then (ck124 k (by omega)) else (ck125 k (by omega)))) else (if hh : k ≤ 127 then (if hh : k ≤ 126 then (ck126 k (by omega)) else (ck127 k (by omega))) else (ck128 k (by omega))))) else (if hh : k ≤ 135 then (if hh : k ≤ 132 then (if hh : k ≤ 130 then (if hh : k ≤ 129 then (ck129 k (by omega)) else (ck130 k (by omega))) else (if hh : k ≤ 131 then (ck131 k (by omega)) else (ck132 k (by omega)))) else (if hh : k ≤ 134 then (if hh : k ≤ 133 then (ck133 k (by omega)) else (ck134 k (by omega))) else (ck135 k (by omega)))) else (if hh : k ≤ 139 then (if hh : k ≤ 137 then (if hh : k ≤ 136 then (ck136 k (by omega)) else (ck137 k (by omega))) else (if hh : k ≤ 138 then (ck138 k (by omega)) else (ck139 k (by omega)))) else (if hh : k ≤ 141 then (if hh : k ≤ 140 then (ck140 k (by omega)) else (ck141 k (by omega))) else (ck142 k (by omega)))))) else (if hh : k ≤ 156 then (if hh : k ≤ 149 then (if hh : k ≤ 146 then (if hh : k ≤ 144 then (if hh : k ≤ 143 then (ck143 k (by omega)) else (ck144 k (by omega))) else (if hh : k ≤ 145 then (ck145 k (by omega)) else (ck146 k (by omega)))) else (if hh : k ≤ 148 then (if hh : k ≤ 147 then (ck147 k (by omega)) else (ck148 k (by omega))) else (ck149 k (by omega)))) else (if hh : k ≤ 153 then (if hh : k ≤ 151 then (if hh : k ≤ 150 then (ck150 k (by omega)) else (ck151 k (by omega))) else (if hh : k ≤ 152 then (ck152 k (by omega)) else (ck153 k (by omega)))) else (if hh : k ≤ 155 then (if hh : k ≤ 154 then (ck154 k (by omega)) else (ck155 k (by omega))) else (ck156 k (by omega))))) else (if hh : k ≤ 163 then (if hh : k ≤ 160 then (if hh : k ≤ 158 then (if hh : k ≤ 157 then (ck157 k (by omega)) else (ck158 k (by omega))) else (if hh : k ≤ 159 then (ck159 k (by omega)) else (ck160 k (by omega)))) else (if hh : k ≤ 162 then (if hh : k ≤ 161 then (ck161 k (by omega)) else (ck162 k (by omega))) else (ck163 k (by omega)))) else (if hh : k ≤ 167 then (if hh : k ≤ 165 then (if hh : k ≤ 164 then (ck164 k (by omega)) else (ck165 k (by omega))) else (if hh : k ≤ 166 then (ck166 k (by omega)) else (ck167 k (by omega)))) else (if hh : k ≤ 169 then (if hh : k ≤ 168 then (ck168 k (by omega)) else (ck169 k (by omega))) else (ck170 k (by omega))))))) else (if hh : k ≤ 198 then (if hh : k ≤ 184 then (if hh : k ≤ 177 then (if hh : k ≤ 174 then (if hh : k ≤ 172 then (if hh : k ≤ 171 then (ck171 k (by omega)) else (ck172 k (by omega))) else (if hh : k ≤ 173 then (ck173 k (by omega)) else (ck174 k (by omega)))) else (if hh : k ≤ 176 then (if hh : k ≤ 175 then (ck175 k (by omega)) else (ck176 k (by omega))) else (ck177 k (by omega)))) else (if hh : k ≤ 181 then (if hh : k ≤ 179 then (if hh : k ≤ 178 then (ck178 k (by omega)) else (ck179 k (by omega))) else (if hh : k ≤ 180 then (ck180 k (by omega)) else (ck181 k (by omega)))) else (if hh : k ≤ 183 then (if hh : k ≤ 182 then (ck182 k (by omega)) else (ck183 k (by omega))) else (ck184 k (by omega))))) else (if hh : k ≤ 191 then (if hh : k ≤ 188 then (if hh : k ≤ 186 then (if hh : k ≤ 185 then (ck185 k (by omega)) else (ck186 k (by omega))) else (if hh : k ≤ 187 then (ck187 k (by omega)) else (ck188 k (by omega)))) else (if hh : k ≤ 190 then (if hh : k ≤ 189 then (ck189 k (by omega)) else (ck190 k (by omega))) else (ck191 k (by omega)))) else (if hh : k ≤ 195 then (if hh : k ≤ 193 then (if hh : k ≤ 192 then (ck192 k (by omega)) else (ck193 k (by omega))) else (if hh : k ≤ 194 then (ck194 k (by omega)) else (ck195 k (by omega)))) else (if hh : k ≤ 197 then (if hh : k ≤ 196 then (ck196 k (by omega)) else (ck197 k (by omega))) else (ck198 k (by omega)))))) else (if hh : k ≤ 212 then (if hh : k ≤ 205 then (if hh : k ≤ 202 then (if hh : k ≤ 200 then (if hh : k ≤ 199 then (ck199 k (by omega)) else (ck200 k (by omega))) else (if hh : k ≤ 201 then (ck201 k (by omega)) else (ck202 k (by omega)))) else (if hh : k ≤ 204 then (if hh : k ≤ 203 then (ck203 k (by omega)) else (ck204 k (by omega))) else (ck205 k (by omega)))) else (if hh : k ≤ 209 then (if hh : k ≤ 207 then (if hh : k ≤ 206 then (ck206 k (by omega)) else (ck207 k (by omega))) else (if hh : k ≤ 208 then (ck208 k (by omega)) else (ck209 k (by omega)))) else (if hh : k ≤ 211 then (if hh : k ≤ 210 then (ck210 k (by omega)) else (ck211 k (by omega))) else (ck212 k (by omega))))) else (if hh : k ≤ 219 then (if hh : k ≤ 216 then (if hh : k ≤ 214 then (if hh : k ≤ 213 then (ck213 k (by omega)) else (ck214 k (by omega))) else (if hh : k ≤ 215 then (ck215 k (by omega)) else (ck216 k (by omega)))) else (if hh : k ≤ 218 then (if hh : k ≤ 217 then (ck217 k (by omega)) else (ck218 k (by omega))) else (ck219 k (by omega)))) else (if hh : k ≤ 223 then (if hh : k ≤ 221 then (if hh : k ≤ 220 then (ck220 k (by omega)) else (ck221 k (by omega))) else (if hh : k ≤ 222 then (ck222 k (by omega)) else (ck223 k (by omega)))) else (if hh : k ≤ 225 then (if hh : k ≤ 224 then (ck224 k (by omega)) else (ck225 k (by omega))) else (ck226 k (by omega))))))))) y b ml rt stc ci hs h
