/-! both trees with a new item -/
theorem mCl_o {X : ST} {S m at1 b f l : Int} {q : Nat} (h1 : q ≠ 70) (h2 : q ≠ 87) (h3 : q ≠ 90) (h4 : q ≠ 91) : gI (mCl X S m at1 b f l) q = gI X q := by
  funext j
  unfold mCl mCn mCf
  split
  · rw [gI_nc h1, gI_nc h4, gI_nc h2]
  · rw [gI_nc h1, gI_nc h4, gI_nc h3]
theorem mCl_87 {X : ST} {S m at1 b f l j : Int} (hj : 0 ≤ j) (hfl : ¬ f = -1 → 0 ≤ l) (h : j ≠ l) : gI (mCl X S m at1 b f l) 87 j = gI X 87 j := by
  unfold mCl mCn mCf
  split
  · next z => rw [gI_nc (show 87 ≠ 70 by omega), gI_nc (show 87 ≠ 91 by omega), gI_ni hj (hfl z) h]
  · rw [gI_nc (show 87 ≠ 70 by omega), gI_nc (show 87 ≠ 91 by omega), gI_nc (show 87 ≠ 90 by omega)]
theorem mCl_87v {X : ST} {S m at1 b f l : Int} (hf : ¬ f = -1) : gI (mCl X S m at1 b f l) 87 l = 130 * S + m := by
  unfold mCl mCn
  rw [if_pos hf, gI_nc (show 87 ≠ 70 by omega), gI_nc (show 87 ≠ 91 by omega), gI_eq]
theorem mCl_90 {X : ST} {S m at1 b f l j : Int} (hj : 0 ≤ j) (hb : 0 ≤ b) (h : j ≠ b) : gI (mCl X S m at1 b f l) 90 j = gI X 90 j := by
  unfold mCl mCn mCf
  split
  · rw [gI_nc (show 90 ≠ 70 by omega), gI_nc (show 90 ≠ 91 by omega), gI_nc (show 90 ≠ 87 by omega)]
  · rw [gI_nc (show 90 ≠ 70 by omega), gI_nc (show 90 ≠ 91 by omega), gI_ni hj hb h]
theorem mCl_90v {X : ST} {S m at1 b f l : Int} (hf : gI X 90 b = f) : gI (mCl X S m at1 b f l) 90 b = if f = -1 then 130 * S + m else f := by
  unfold mCl mCn mCf
  by_cases z : f = -1
  · rw [if_neg (fun y => y z), if_pos z, gI_nc (show 90 ≠ 70 by omega), gI_nc (show 90 ≠ 91 by omega), gI_eq]
  · rw [if_pos z, if_neg z, gI_nc (show 90 ≠ 70 by omega), gI_nc (show 90 ≠ 91 by omega), gI_nc (show 90 ≠ 87 by omega), hf]
theorem mCl_91 {X : ST} {S m at1 b f l j : Int} (hj : 0 ≤ j) (hb : 0 ≤ b) (h : j ≠ b) : gI (mCl X S m at1 b f l) 91 j = gI X 91 j := by
  unfold mCl mCn mCf
  split
  · rw [gI_nc (show 91 ≠ 70 by omega), gI_ni hj hb h, gI_nc (show 91 ≠ 87 by omega)]
  · rw [gI_nc (show 91 ≠ 70 by omega), gI_ni hj hb h, gI_nc (show 91 ≠ 90 by omega)]
theorem mCl_91v {X : ST} {S m at1 b f l : Int} : gI (mCl X S m at1 b f l) 91 b = 130 * S + m := by
  unfold mCl mCn mCf
  split
  · rw [gI_nc (show 91 ≠ 70 by omega), gI_eq]
  · rw [gI_nc (show 91 ≠ 70 by omega), gI_eq]
theorem m1_o {t : ST} {S n m p d1 at1 nm its b : Int} {q : Nat} (h73 : q ≠ 73) (h75 : q ≠ 75) (h77 : q ≠ 77) (h78 : q ≠ 78) (h79 : q ≠ 79) (h80 : q ≠ 80) (h81 : q ≠ 81) (h82 : q ≠ 82) (h83 : q ≠ 83) (h84 : q ≠ 84) (h85 : q ≠ 85) (h86 : q ≠ 86) (h87 : q ≠ 87) (h88 : q ≠ 88) (h89 : q ≠ 89) (h93 : q ≠ 93) : gI (mC1 t S n m p d1 at1 nm its b) q = gI t q := by
  unfold mC1 mC0
  funext j
  rw [gI_nc h75, gI_nc h93, gI_nc h78, gI_nc h89, gI_nc h89, gI_nc h88, gI_nc h87, gI_nc h86, gI_nc h85, gI_nc h84, gI_nc h83, gI_nc h82, gI_nc h81, gI_nc h80, gI_nc h79, gI_nc h78, gI_nc h77, gI_nc h73]
theorem m1_77 {t : ST} {S n m p d1 at1 nm its b : Int} (S0 : 0 ≤ S) (m0 : 0 ≤ m) : UP (gI t 77) (gI (mC1 t S n m p d1 at1 nm its b) 77) (130 * S + m) := by
  intro j h0 h1
  unfold mC1 mC0
  rw [gI_nc (show 77 ≠ 75 by decide), gI_nc (show 77 ≠ 93 by decide), gI_nc (show 77 ≠ 78 by decide), gI_nc (show 77 ≠ 89 by decide), gI_nc (show 77 ≠ 89 by decide), gI_nc (show 77 ≠ 88 by decide), gI_nc (show 77 ≠ 87 by decide), gI_nc (show 77 ≠ 86 by decide), gI_nc (show 77 ≠ 85 by decide), gI_nc (show 77 ≠ 84 by decide), gI_nc (show 77 ≠ 83 by decide), gI_nc (show 77 ≠ 82 by decide), gI_nc (show 77 ≠ 81 by decide), gI_nc (show 77 ≠ 80 by decide), gI_nc (show 77 ≠ 79 by decide), gI_nc (show 77 ≠ 78 by decide), gI_ni h0 (by omega) h1, gI_nc (show 77 ≠ 73 by decide)]
theorem m1_78 {t : ST} {S n m p d1 at1 nm its b : Int} (S0 : 0 ≤ S) (m0 : 0 ≤ m) : UP (gI t 78) (gI (mC1 t S n m p d1 at1 nm its b) 78) (130 * S + m) := by
  intro j h0 h1
  unfold mC1 mC0
  rw [gI_nc (show 78 ≠ 75 by decide), gI_nc (show 78 ≠ 93 by decide), gI_ni h0 (by omega) h1, gI_nc (show 78 ≠ 89 by decide), gI_nc (show 78 ≠ 89 by decide), gI_nc (show 78 ≠ 88 by decide), gI_nc (show 78 ≠ 87 by decide), gI_nc (show 78 ≠ 86 by decide), gI_nc (show 78 ≠ 85 by decide), gI_nc (show 78 ≠ 84 by decide), gI_nc (show 78 ≠ 83 by decide), gI_nc (show 78 ≠ 82 by decide), gI_nc (show 78 ≠ 81 by decide), gI_nc (show 78 ≠ 80 by decide), gI_nc (show 78 ≠ 79 by decide), gI_ni h0 (by omega) h1, gI_nc (show 78 ≠ 77 by decide), gI_nc (show 78 ≠ 73 by decide)]
theorem m1_79 {t : ST} {S n m p d1 at1 nm its b : Int} (S0 : 0 ≤ S) (m0 : 0 ≤ m) : UP (gI t 79) (gI (mC1 t S n m p d1 at1 nm its b) 79) (130 * S + m) := by
  intro j h0 h1
  unfold mC1 mC0
  rw [gI_nc (show 79 ≠ 75 by decide), gI_nc (show 79 ≠ 93 by decide), gI_nc (show 79 ≠ 78 by decide), gI_nc (show 79 ≠ 89 by decide), gI_nc (show 79 ≠ 89 by decide), gI_nc (show 79 ≠ 88 by decide), gI_nc (show 79 ≠ 87 by decide), gI_nc (show 79 ≠ 86 by decide), gI_nc (show 79 ≠ 85 by decide), gI_nc (show 79 ≠ 84 by decide), gI_nc (show 79 ≠ 83 by decide), gI_nc (show 79 ≠ 82 by decide), gI_nc (show 79 ≠ 81 by decide), gI_nc (show 79 ≠ 80 by decide), gI_ni h0 (by omega) h1, gI_nc (show 79 ≠ 78 by decide), gI_nc (show 79 ≠ 77 by decide), gI_nc (show 79 ≠ 73 by decide)]
theorem m1_80 {t : ST} {S n m p d1 at1 nm its b : Int} (S0 : 0 ≤ S) (m0 : 0 ≤ m) : UP (gI t 80) (gI (mC1 t S n m p d1 at1 nm its b) 80) (130 * S + m) := by
  intro j h0 h1
  unfold mC1 mC0
  rw [gI_nc (show 80 ≠ 75 by decide), gI_nc (show 80 ≠ 93 by decide), gI_nc (show 80 ≠ 78 by decide), gI_nc (show 80 ≠ 89 by decide), gI_nc (show 80 ≠ 89 by decide), gI_nc (show 80 ≠ 88 by decide), gI_nc (show 80 ≠ 87 by decide), gI_nc (show 80 ≠ 86 by decide), gI_nc (show 80 ≠ 85 by decide), gI_nc (show 80 ≠ 84 by decide), gI_nc (show 80 ≠ 83 by decide), gI_nc (show 80 ≠ 82 by decide), gI_nc (show 80 ≠ 81 by decide), gI_ni h0 (by omega) h1, gI_nc (show 80 ≠ 79 by decide), gI_nc (show 80 ≠ 78 by decide), gI_nc (show 80 ≠ 77 by decide), gI_nc (show 80 ≠ 73 by decide)]
theorem m1_81 {t : ST} {S n m p d1 at1 nm its b : Int} (S0 : 0 ≤ S) (m0 : 0 ≤ m) : UP (gI t 81) (gI (mC1 t S n m p d1 at1 nm its b) 81) (130 * S + m) := by
  intro j h0 h1
  unfold mC1 mC0
  rw [gI_nc (show 81 ≠ 75 by decide), gI_nc (show 81 ≠ 93 by decide), gI_nc (show 81 ≠ 78 by decide), gI_nc (show 81 ≠ 89 by decide), gI_nc (show 81 ≠ 89 by decide), gI_nc (show 81 ≠ 88 by decide), gI_nc (show 81 ≠ 87 by decide), gI_nc (show 81 ≠ 86 by decide), gI_nc (show 81 ≠ 85 by decide), gI_nc (show 81 ≠ 84 by decide), gI_nc (show 81 ≠ 83 by decide), gI_nc (show 81 ≠ 82 by decide), gI_ni h0 (by omega) h1, gI_nc (show 81 ≠ 80 by decide), gI_nc (show 81 ≠ 79 by decide), gI_nc (show 81 ≠ 78 by decide), gI_nc (show 81 ≠ 77 by decide), gI_nc (show 81 ≠ 73 by decide)]
theorem m1_82 {t : ST} {S n m p d1 at1 nm its b : Int} (S0 : 0 ≤ S) (m0 : 0 ≤ m) : UP (gI t 82) (gI (mC1 t S n m p d1 at1 nm its b) 82) (130 * S + m) := by
  intro j h0 h1
  unfold mC1 mC0
  rw [gI_nc (show 82 ≠ 75 by decide), gI_nc (show 82 ≠ 93 by decide), gI_nc (show 82 ≠ 78 by decide), gI_nc (show 82 ≠ 89 by decide), gI_nc (show 82 ≠ 89 by decide), gI_nc (show 82 ≠ 88 by decide), gI_nc (show 82 ≠ 87 by decide), gI_nc (show 82 ≠ 86 by decide), gI_nc (show 82 ≠ 85 by decide), gI_nc (show 82 ≠ 84 by decide), gI_nc (show 82 ≠ 83 by decide), gI_ni h0 (by omega) h1, gI_nc (show 82 ≠ 81 by decide), gI_nc (show 82 ≠ 80 by decide), gI_nc (show 82 ≠ 79 by decide), gI_nc (show 82 ≠ 78 by decide), gI_nc (show 82 ≠ 77 by decide), gI_nc (show 82 ≠ 73 by decide)]
theorem m1_84 {t : ST} {S n m p d1 at1 nm its b : Int} (S0 : 0 ≤ S) (m0 : 0 ≤ m) : UP (gI t 84) (gI (mC1 t S n m p d1 at1 nm its b) 84) (130 * S + m) := by
  intro j h0 h1
  unfold mC1 mC0
  rw [gI_nc (show 84 ≠ 75 by decide), gI_nc (show 84 ≠ 93 by decide), gI_nc (show 84 ≠ 78 by decide), gI_nc (show 84 ≠ 89 by decide), gI_nc (show 84 ≠ 89 by decide), gI_nc (show 84 ≠ 88 by decide), gI_nc (show 84 ≠ 87 by decide), gI_nc (show 84 ≠ 86 by decide), gI_nc (show 84 ≠ 85 by decide), gI_ni h0 (by omega) h1, gI_nc (show 84 ≠ 83 by decide), gI_nc (show 84 ≠ 82 by decide), gI_nc (show 84 ≠ 81 by decide), gI_nc (show 84 ≠ 80 by decide), gI_nc (show 84 ≠ 79 by decide), gI_nc (show 84 ≠ 78 by decide), gI_nc (show 84 ≠ 77 by decide), gI_nc (show 84 ≠ 73 by decide)]
theorem m1_85 {t : ST} {S n m p d1 at1 nm its b : Int} (S0 : 0 ≤ S) (m0 : 0 ≤ m) : UP (gI t 85) (gI (mC1 t S n m p d1 at1 nm its b) 85) (130 * S + m) := by
  intro j h0 h1
  unfold mC1 mC0
  rw [gI_nc (show 85 ≠ 75 by decide), gI_nc (show 85 ≠ 93 by decide), gI_nc (show 85 ≠ 78 by decide), gI_nc (show 85 ≠ 89 by decide), gI_nc (show 85 ≠ 89 by decide), gI_nc (show 85 ≠ 88 by decide), gI_nc (show 85 ≠ 87 by decide), gI_nc (show 85 ≠ 86 by decide), gI_ni h0 (by omega) h1, gI_nc (show 85 ≠ 84 by decide), gI_nc (show 85 ≠ 83 by decide), gI_nc (show 85 ≠ 82 by decide), gI_nc (show 85 ≠ 81 by decide), gI_nc (show 85 ≠ 80 by decide), gI_nc (show 85 ≠ 79 by decide), gI_nc (show 85 ≠ 78 by decide), gI_nc (show 85 ≠ 77 by decide), gI_nc (show 85 ≠ 73 by decide)]
theorem m1_86 {t : ST} {S n m p d1 at1 nm its b : Int} (S0 : 0 ≤ S) (m0 : 0 ≤ m) : UP (gI t 86) (gI (mC1 t S n m p d1 at1 nm its b) 86) (130 * S + m) := by
  intro j h0 h1
  unfold mC1 mC0
  rw [gI_nc (show 86 ≠ 75 by decide), gI_nc (show 86 ≠ 93 by decide), gI_nc (show 86 ≠ 78 by decide), gI_nc (show 86 ≠ 89 by decide), gI_nc (show 86 ≠ 89 by decide), gI_nc (show 86 ≠ 88 by decide), gI_nc (show 86 ≠ 87 by decide), gI_ni h0 (by omega) h1, gI_nc (show 86 ≠ 85 by decide), gI_nc (show 86 ≠ 84 by decide), gI_nc (show 86 ≠ 83 by decide), gI_nc (show 86 ≠ 82 by decide), gI_nc (show 86 ≠ 81 by decide), gI_nc (show 86 ≠ 80 by decide), gI_nc (show 86 ≠ 79 by decide), gI_nc (show 86 ≠ 78 by decide), gI_nc (show 86 ≠ 77 by decide), gI_nc (show 86 ≠ 73 by decide)]
theorem m1_87 {t : ST} {S n m p d1 at1 nm its b : Int} (S0 : 0 ≤ S) (m0 : 0 ≤ m) : UP (gI t 87) (gI (mC1 t S n m p d1 at1 nm its b) 87) (130 * S + m) := by
  intro j h0 h1
  unfold mC1 mC0
  rw [gI_nc (show 87 ≠ 75 by decide), gI_nc (show 87 ≠ 93 by decide), gI_nc (show 87 ≠ 78 by decide), gI_nc (show 87 ≠ 89 by decide), gI_nc (show 87 ≠ 89 by decide), gI_nc (show 87 ≠ 88 by decide), gI_ni h0 (by omega) h1, gI_nc (show 87 ≠ 86 by decide), gI_nc (show 87 ≠ 85 by decide), gI_nc (show 87 ≠ 84 by decide), gI_nc (show 87 ≠ 83 by decide), gI_nc (show 87 ≠ 82 by decide), gI_nc (show 87 ≠ 81 by decide), gI_nc (show 87 ≠ 80 by decide), gI_nc (show 87 ≠ 79 by decide), gI_nc (show 87 ≠ 78 by decide), gI_nc (show 87 ≠ 77 by decide), gI_nc (show 87 ≠ 73 by decide)]
theorem m1_88 {t : ST} {S n m p d1 at1 nm its b : Int} (S0 : 0 ≤ S) (m0 : 0 ≤ m) : UP (gI t 88) (gI (mC1 t S n m p d1 at1 nm its b) 88) (130 * S + m) := by
  intro j h0 h1
  unfold mC1 mC0
  rw [gI_nc (show 88 ≠ 75 by decide), gI_nc (show 88 ≠ 93 by decide), gI_nc (show 88 ≠ 78 by decide), gI_nc (show 88 ≠ 89 by decide), gI_nc (show 88 ≠ 89 by decide), gI_ni h0 (by omega) h1, gI_nc (show 88 ≠ 87 by decide), gI_nc (show 88 ≠ 86 by decide), gI_nc (show 88 ≠ 85 by decide), gI_nc (show 88 ≠ 84 by decide), gI_nc (show 88 ≠ 83 by decide), gI_nc (show 88 ≠ 82 by decide), gI_nc (show 88 ≠ 81 by decide), gI_nc (show 88 ≠ 80 by decide), gI_nc (show 88 ≠ 79 by decide), gI_nc (show 88 ≠ 78 by decide), gI_nc (show 88 ≠ 77 by decide), gI_nc (show 88 ≠ 73 by decide)]
theorem m1_73v {t : ST} {S n m p d1 at1 nm its b : Int} : gI (mC1 t S n m p d1 at1 nm its b) 73 S = (m + 1) := by
  unfold mC1 mC0
  rw [gI_nc (show 73 ≠ 75 by decide), gI_nc (show 73 ≠ 93 by decide), gI_nc (show 73 ≠ 78 by decide), gI_nc (show 73 ≠ 89 by decide), gI_nc (show 73 ≠ 89 by decide), gI_nc (show 73 ≠ 88 by decide), gI_nc (show 73 ≠ 87 by decide), gI_nc (show 73 ≠ 86 by decide), gI_nc (show 73 ≠ 85 by decide), gI_nc (show 73 ≠ 84 by decide), gI_nc (show 73 ≠ 83 by decide), gI_nc (show 73 ≠ 82 by decide), gI_nc (show 73 ≠ 81 by decide), gI_nc (show 73 ≠ 80 by decide), gI_nc (show 73 ≠ 79 by decide), gI_nc (show 73 ≠ 78 by decide), gI_nc (show 73 ≠ 77 by decide), gI_eq]
theorem m1_77v {t : ST} {S n m p d1 at1 nm its b : Int} : gI (mC1 t S n m p d1 at1 nm its b) 77 (130 * S + m) = its := by
  unfold mC1 mC0
  rw [gI_nc (show 77 ≠ 75 by decide), gI_nc (show 77 ≠ 93 by decide), gI_nc (show 77 ≠ 78 by decide), gI_nc (show 77 ≠ 89 by decide), gI_nc (show 77 ≠ 89 by decide), gI_nc (show 77 ≠ 88 by decide), gI_nc (show 77 ≠ 87 by decide), gI_nc (show 77 ≠ 86 by decide), gI_nc (show 77 ≠ 85 by decide), gI_nc (show 77 ≠ 84 by decide), gI_nc (show 77 ≠ 83 by decide), gI_nc (show 77 ≠ 82 by decide), gI_nc (show 77 ≠ 81 by decide), gI_nc (show 77 ≠ 80 by decide), gI_nc (show 77 ≠ 79 by decide), gI_nc (show 77 ≠ 78 by decide), gI_eq]
theorem m1_78v {t : ST} {S n m p d1 at1 nm its b : Int} : gI (mC1 t S n m p d1 at1 nm its b) 78 (130 * S + m) = n := by
  unfold mC1 mC0
  rw [gI_nc (show 78 ≠ 75 by decide), gI_nc (show 78 ≠ 93 by decide), gI_eq]
theorem m1_79v {t : ST} {S n m p d1 at1 nm its b : Int} : gI (mC1 t S n m p d1 at1 nm its b) 79 (130 * S + m) = p := by
  unfold mC1 mC0
  rw [gI_nc (show 79 ≠ 75 by decide), gI_nc (show 79 ≠ 93 by decide), gI_nc (show 79 ≠ 78 by decide), gI_nc (show 79 ≠ 89 by decide), gI_nc (show 79 ≠ 89 by decide), gI_nc (show 79 ≠ 88 by decide), gI_nc (show 79 ≠ 87 by decide), gI_nc (show 79 ≠ 86 by decide), gI_nc (show 79 ≠ 85 by decide), gI_nc (show 79 ≠ 84 by decide), gI_nc (show 79 ≠ 83 by decide), gI_nc (show 79 ≠ 82 by decide), gI_nc (show 79 ≠ 81 by decide), gI_nc (show 79 ≠ 80 by decide), gI_eq]
theorem m1_80v {t : ST} {S n m p d1 at1 nm its b : Int} : gI (mC1 t S n m p d1 at1 nm its b) 80 (130 * S + m) = d1 := by
  unfold mC1 mC0
  rw [gI_nc (show 80 ≠ 75 by decide), gI_nc (show 80 ≠ 93 by decide), gI_nc (show 80 ≠ 78 by decide), gI_nc (show 80 ≠ 89 by decide), gI_nc (show 80 ≠ 89 by decide), gI_nc (show 80 ≠ 88 by decide), gI_nc (show 80 ≠ 87 by decide), gI_nc (show 80 ≠ 86 by decide), gI_nc (show 80 ≠ 85 by decide), gI_nc (show 80 ≠ 84 by decide), gI_nc (show 80 ≠ 83 by decide), gI_nc (show 80 ≠ 82 by decide), gI_nc (show 80 ≠ 81 by decide), gI_eq]
theorem m1_81v {t : ST} {S n m p d1 at1 nm its b : Int} : gI (mC1 t S n m p d1 at1 nm its b) 81 (130 * S + m) = at1 := by
  unfold mC1 mC0
  rw [gI_nc (show 81 ≠ 75 by decide), gI_nc (show 81 ≠ 93 by decide), gI_nc (show 81 ≠ 78 by decide), gI_nc (show 81 ≠ 89 by decide), gI_nc (show 81 ≠ 89 by decide), gI_nc (show 81 ≠ 88 by decide), gI_nc (show 81 ≠ 87 by decide), gI_nc (show 81 ≠ 86 by decide), gI_nc (show 81 ≠ 85 by decide), gI_nc (show 81 ≠ 84 by decide), gI_nc (show 81 ≠ 83 by decide), gI_nc (show 81 ≠ 82 by decide), gI_eq]
theorem m1_82v {t : ST} {S n m p d1 at1 nm its b : Int} : gI (mC1 t S n m p d1 at1 nm its b) 82 (130 * S + m) = nm := by
  unfold mC1 mC0
  rw [gI_nc (show 82 ≠ 75 by decide), gI_nc (show 82 ≠ 93 by decide), gI_nc (show 82 ≠ 78 by decide), gI_nc (show 82 ≠ 89 by decide), gI_nc (show 82 ≠ 89 by decide), gI_nc (show 82 ≠ 88 by decide), gI_nc (show 82 ≠ 87 by decide), gI_nc (show 82 ≠ 86 by decide), gI_nc (show 82 ≠ 85 by decide), gI_nc (show 82 ≠ 84 by decide), gI_nc (show 82 ≠ 83 by decide), gI_eq]
theorem m1_84v {t : ST} {S n m p d1 at1 nm its b : Int} : gI (mC1 t S n m p d1 at1 nm its b) 84 (130 * S + m) = (-2) := by
  unfold mC1 mC0
  rw [gI_nc (show 84 ≠ 75 by decide), gI_nc (show 84 ≠ 93 by decide), gI_nc (show 84 ≠ 78 by decide), gI_nc (show 84 ≠ 89 by decide), gI_nc (show 84 ≠ 89 by decide), gI_nc (show 84 ≠ 88 by decide), gI_nc (show 84 ≠ 87 by decide), gI_nc (show 84 ≠ 86 by decide), gI_nc (show 84 ≠ 85 by decide), gI_eq]
theorem m1_85v {t : ST} {S n m p d1 at1 nm its b : Int} : gI (mC1 t S n m p d1 at1 nm its b) 85 (130 * S + m) = (-1) := by
  unfold mC1 mC0
  rw [gI_nc (show 85 ≠ 75 by decide), gI_nc (show 85 ≠ 93 by decide), gI_nc (show 85 ≠ 78 by decide), gI_nc (show 85 ≠ 89 by decide), gI_nc (show 85 ≠ 89 by decide), gI_nc (show 85 ≠ 88 by decide), gI_nc (show 85 ≠ 87 by decide), gI_nc (show 85 ≠ 86 by decide), gI_eq]
theorem m1_86v {t : ST} {S n m p d1 at1 nm its b : Int} : gI (mC1 t S n m p d1 at1 nm its b) 86 (130 * S + m) = (-1) := by
  unfold mC1 mC0
  rw [gI_nc (show 86 ≠ 75 by decide), gI_nc (show 86 ≠ 93 by decide), gI_nc (show 86 ≠ 78 by decide), gI_nc (show 86 ≠ 89 by decide), gI_nc (show 86 ≠ 89 by decide), gI_nc (show 86 ≠ 88 by decide), gI_nc (show 86 ≠ 87 by decide), gI_eq]
theorem m1_87v {t : ST} {S n m p d1 at1 nm its b : Int} : gI (mC1 t S n m p d1 at1 nm its b) 87 (130 * S + m) = (-1) := by
  unfold mC1 mC0
  rw [gI_nc (show 87 ≠ 75 by decide), gI_nc (show 87 ≠ 93 by decide), gI_nc (show 87 ≠ 78 by decide), gI_nc (show 87 ≠ 89 by decide), gI_nc (show 87 ≠ 89 by decide), gI_nc (show 87 ≠ 88 by decide), gI_eq]
theorem m1_88v {t : ST} {S n m p d1 at1 nm its b : Int} : gI (mC1 t S n m p d1 at1 nm its b) 88 (130 * S + m) = b := by
  unfold mC1 mC0
  rw [gI_nc (show 88 ≠ 75 by decide), gI_nc (show 88 ≠ 93 by decide), gI_nc (show 88 ≠ 78 by decide), gI_nc (show 88 ≠ 89 by decide), gI_nc (show 88 ≠ 89 by decide), gI_eq]
theorem m1_75v {t : ST} {S n m p d1 at1 nm its b : Int} : gI (mC1 t S n m p d1 at1 nm its b) 75 S = (n + 1) := by
  unfold mC1 mC0
  rw [gI_eq]
theorem m1_93v {t : ST} {S n m p d1 at1 nm its b : Int} : gI (mC1 t S n m p d1 at1 nm its b) 93 (40 * S + n) = (130 * S + m) := by
  unfold mC1 mC0
  rw [gI_nc (show 93 ≠ 75 by decide), gI_eq]
theorem m1_93 {t : ST} {S n m p d1 at1 nm its b : Int} (S0 : 0 ≤ S) (n0 : 0 ≤ n) : UP (gI t 93) (gI (mC1 t S n m p d1 at1 nm its b) 93) (40 * S + n) := by
  intro j h0 h1
  unfold mC1 mC0
  rw [gI_nc (show 93 ≠ 75 by decide), gI_ni h0 (by omega) h1, gI_nc (show 93 ≠ 78 by decide), gI_nc (show 93 ≠ 89 by decide), gI_nc (show 93 ≠ 89 by decide), gI_nc (show 93 ≠ 88 by decide), gI_nc (show 93 ≠ 87 by decide), gI_nc (show 93 ≠ 86 by decide), gI_nc (show 93 ≠ 85 by decide), gI_nc (show 93 ≠ 84 by decide), gI_nc (show 93 ≠ 83 by decide), gI_nc (show 93 ≠ 82 by decide), gI_nc (show 93 ≠ 81 by decide), gI_nc (show 93 ≠ 80 by decide), gI_nc (show 93 ≠ 79 by decide), gI_nc (show 93 ≠ 78 by decide), gI_nc (show 93 ≠ 77 by decide), gI_nc (show 93 ≠ 73 by decide)]
theorem c1_37 {c : Nat} {s : ST} {n m d pl kd pr nm : Int} (hc : c = 2 ∨ c = 18) (m0 : 0 ≤ m) : UP (gI s 37) (gI (sI (cNw s c n m d pl kd pr (s.1 46 (d - 1).toNat)) (c + 6) n.toNat nm) 37) m := by
  intro j h0 h1
  unfold cNw
  rw [gI_nc (show 37 ≠ (c + 6) by omega), gI_nc (show 37 ≠ 34 by decide), gI_nc (show 37 ≠ 46 by decide), gI_nc (show 37 ≠ 38 by decide), gI_nc (show 37 ≠ 41 by decide), gI_nc (show 37 ≠ 40 by decide), gI_nc (show 37 ≠ 39 by decide), gI_nc (show 37 ≠ 38 by decide), gI_ni h0 (by omega) h1, gI_nc (show 37 ≠ 36 by decide), gI_nc (show 37 ≠ (c + 10) by omega), gI_nc (show 37 ≠ (c + 9) by omega), gI_nc (show 37 ≠ (c + 8) by omega), gI_nc (show 37 ≠ (c + 7) by omega), gI_nc (show 37 ≠ (c + 6) by omega), gI_nc (show 37 ≠ (c + 5) by omega), gI_nc (show 37 ≠ (c + 4) by omega), gI_nc (show 37 ≠ (c + 3) by omega), gI_nc (show 37 ≠ (c + 2) by omega), gI_nc (show 37 ≠ c by omega)]
theorem c1_38 {c : Nat} {s : ST} {n m d pl kd pr nm : Int} (hc : c = 2 ∨ c = 18) (m0 : 0 ≤ m) : UP (gI s 38) (gI (sI (cNw s c n m d pl kd pr (s.1 46 (d - 1).toNat)) (c + 6) n.toNat nm) 38) m := by
  intro j h0 h1
  unfold cNw
  rw [gI_nc (show 38 ≠ (c + 6) by omega), gI_nc (show 38 ≠ 34 by decide), gI_nc (show 38 ≠ 46 by decide), gI_ni h0 (by omega) h1, gI_nc (show 38 ≠ 41 by decide), gI_nc (show 38 ≠ 40 by decide), gI_nc (show 38 ≠ 39 by decide), gI_ni h0 (by omega) h1, gI_nc (show 38 ≠ 37 by decide), gI_nc (show 38 ≠ 36 by decide), gI_nc (show 38 ≠ (c + 10) by omega), gI_nc (show 38 ≠ (c + 9) by omega), gI_nc (show 38 ≠ (c + 8) by omega), gI_nc (show 38 ≠ (c + 7) by omega), gI_nc (show 38 ≠ (c + 6) by omega), gI_nc (show 38 ≠ (c + 5) by omega), gI_nc (show 38 ≠ (c + 4) by omega), gI_nc (show 38 ≠ (c + 3) by omega), gI_nc (show 38 ≠ (c + 2) by omega), gI_nc (show 38 ≠ c by omega)]
theorem c1_39 {c : Nat} {s : ST} {n m d pl kd pr nm : Int} (hc : c = 2 ∨ c = 18) (m0 : 0 ≤ m) : UP (gI s 39) (gI (sI (cNw s c n m d pl kd pr (s.1 46 (d - 1).toNat)) (c + 6) n.toNat nm) 39) m := by
  intro j h0 h1
  unfold cNw
  rw [gI_nc (show 39 ≠ (c + 6) by omega), gI_nc (show 39 ≠ 34 by decide), gI_nc (show 39 ≠ 46 by decide), gI_nc (show 39 ≠ 38 by decide), gI_nc (show 39 ≠ 41 by decide), gI_nc (show 39 ≠ 40 by decide), gI_ni h0 (by omega) h1, gI_nc (show 39 ≠ 38 by decide), gI_nc (show 39 ≠ 37 by decide), gI_nc (show 39 ≠ 36 by decide), gI_nc (show 39 ≠ (c + 10) by omega), gI_nc (show 39 ≠ (c + 9) by omega), gI_nc (show 39 ≠ (c + 8) by omega), gI_nc (show 39 ≠ (c + 7) by omega), gI_nc (show 39 ≠ (c + 6) by omega), gI_nc (show 39 ≠ (c + 5) by omega), gI_nc (show 39 ≠ (c + 4) by omega), gI_nc (show 39 ≠ (c + 3) by omega), gI_nc (show 39 ≠ (c + 2) by omega), gI_nc (show 39 ≠ c by omega)]
theorem c1_40 {c : Nat} {s : ST} {n m d pl kd pr nm : Int} (hc : c = 2 ∨ c = 18) (m0 : 0 ≤ m) : UP (gI s 40) (gI (sI (cNw s c n m d pl kd pr (s.1 46 (d - 1).toNat)) (c + 6) n.toNat nm) 40) m := by
  intro j h0 h1
  unfold cNw
  rw [gI_nc (show 40 ≠ (c + 6) by omega), gI_nc (show 40 ≠ 34 by decide), gI_nc (show 40 ≠ 46 by decide), gI_nc (show 40 ≠ 38 by decide), gI_nc (show 40 ≠ 41 by decide), gI_ni h0 (by omega) h1, gI_nc (show 40 ≠ 39 by decide), gI_nc (show 40 ≠ 38 by decide), gI_nc (show 40 ≠ 37 by decide), gI_nc (show 40 ≠ 36 by decide), gI_nc (show 40 ≠ (c + 10) by omega), gI_nc (show 40 ≠ (c + 9) by omega), gI_nc (show 40 ≠ (c + 8) by omega), gI_nc (show 40 ≠ (c + 7) by omega), gI_nc (show 40 ≠ (c + 6) by omega), gI_nc (show 40 ≠ (c + 5) by omega), gI_nc (show 40 ≠ (c + 4) by omega), gI_nc (show 40 ≠ (c + 3) by omega), gI_nc (show 40 ≠ (c + 2) by omega), gI_nc (show 40 ≠ c by omega)]
theorem c1_41 {c : Nat} {s : ST} {n m d pl kd pr nm : Int} (hc : c = 2 ∨ c = 18) (m0 : 0 ≤ m) : UP (gI s 41) (gI (sI (cNw s c n m d pl kd pr (s.1 46 (d - 1).toNat)) (c + 6) n.toNat nm) 41) m := by
  intro j h0 h1
  unfold cNw
  rw [gI_nc (show 41 ≠ (c + 6) by omega), gI_nc (show 41 ≠ 34 by decide), gI_nc (show 41 ≠ 46 by decide), gI_nc (show 41 ≠ 38 by decide), gI_ni h0 (by omega) h1, gI_nc (show 41 ≠ 40 by decide), gI_nc (show 41 ≠ 39 by decide), gI_nc (show 41 ≠ 38 by decide), gI_nc (show 41 ≠ 37 by decide), gI_nc (show 41 ≠ 36 by decide), gI_nc (show 41 ≠ (c + 10) by omega), gI_nc (show 41 ≠ (c + 9) by omega), gI_nc (show 41 ≠ (c + 8) by omega), gI_nc (show 41 ≠ (c + 7) by omega), gI_nc (show 41 ≠ (c + 6) by omega), gI_nc (show 41 ≠ (c + 5) by omega), gI_nc (show 41 ≠ (c + 4) by omega), gI_nc (show 41 ≠ (c + 3) by omega), gI_nc (show 41 ≠ (c + 2) by omega), gI_nc (show 41 ≠ c by omega)]
theorem c1_37v {c : Nat} {s : ST} {n m d pl kd pr nm : Int} (hc : c = 2 ∨ c = 18) : gI (sI (cNw s c n m d pl kd pr (s.1 46 (d - 1).toNat)) (c + 6) n.toNat nm) 37 m = n := by
  unfold cNw
  rw [gI_nc (show 37 ≠ (c + 6) by omega), gI_nc (show 37 ≠ 34 by decide), gI_nc (show 37 ≠ 46 by decide), gI_nc (show 37 ≠ 38 by decide), gI_nc (show 37 ≠ 41 by decide), gI_nc (show 37 ≠ 40 by decide), gI_nc (show 37 ≠ 39 by decide), gI_nc (show 37 ≠ 38 by decide), gI_eq]
theorem c1_38v {c : Nat} {s : ST} {n m d pl kd pr nm : Int} (hc : c = 2 ∨ c = 18) : gI (sI (cNw s c n m d pl kd pr (s.1 46 (d - 1).toNat)) (c + 6) n.toNat nm) 38 m = s.1 46 (d - 1).toNat := by
  unfold cNw
  rw [gI_nc (show 38 ≠ (c + 6) by omega), gI_nc (show 38 ≠ 34 by decide), gI_nc (show 38 ≠ 46 by decide), gI_eq]
theorem c1_39v {c : Nat} {s : ST} {n m d pl kd pr nm : Int} (hc : c = 2 ∨ c = 18) : gI (sI (cNw s c n m d pl kd pr (s.1 46 (d - 1).toNat)) (c + 6) n.toNat nm) 39 m = -1 := by
  unfold cNw
  rw [gI_nc (show 39 ≠ (c + 6) by omega), gI_nc (show 39 ≠ 34 by decide), gI_nc (show 39 ≠ 46 by decide), gI_nc (show 39 ≠ 38 by decide), gI_nc (show 39 ≠ 41 by decide), gI_nc (show 39 ≠ 40 by decide), gI_eq]
theorem c1_40v {c : Nat} {s : ST} {n m d pl kd pr nm : Int} (hc : c = 2 ∨ c = 18) : gI (sI (cNw s c n m d pl kd pr (s.1 46 (d - 1).toNat)) (c + 6) n.toNat nm) 40 m = -1 := by
  unfold cNw
  rw [gI_nc (show 40 ≠ (c + 6) by omega), gI_nc (show 40 ≠ 34 by decide), gI_nc (show 40 ≠ 46 by decide), gI_nc (show 40 ≠ 38 by decide), gI_nc (show 40 ≠ 41 by decide), gI_eq]
theorem c1_46 {c : Nat} {s : ST} {n m d pl kd pr nm : Int} (hc : c = 2 ∨ c = 18) (d0 : 1 ≤ d) : UP (gI s 46) (gI (sI (cNw s c n m d pl kd pr (s.1 46 (d - 1).toNat)) (c + 6) n.toNat nm) 46) (d - 1) := by
  intro j h0 h1
  unfold cNw
  rw [gI_nc (show 46 ≠ (c + 6) by omega), gI_nc (show 46 ≠ 34 by decide), gI_ni h0 (by omega) h1, gI_nc (show 46 ≠ 38 by decide), gI_nc (show 46 ≠ 41 by decide), gI_nc (show 46 ≠ 40 by decide), gI_nc (show 46 ≠ 39 by decide), gI_nc (show 46 ≠ 38 by decide), gI_nc (show 46 ≠ 37 by decide), gI_nc (show 46 ≠ 36 by decide), gI_nc (show 46 ≠ (c + 10) by omega), gI_nc (show 46 ≠ (c + 9) by omega), gI_nc (show 46 ≠ (c + 8) by omega), gI_nc (show 46 ≠ (c + 7) by omega), gI_nc (show 46 ≠ (c + 6) by omega), gI_nc (show 46 ≠ (c + 5) by omega), gI_nc (show 46 ≠ (c + 4) by omega), gI_nc (show 46 ≠ (c + 3) by omega), gI_nc (show 46 ≠ (c + 2) by omega), gI_nc (show 46 ≠ c by omega)]
theorem c1_46v {c : Nat} {s : ST} {n m d pl kd pr nm : Int} (hc : c = 2 ∨ c = 18) : gI (sI (cNw s c n m d pl kd pr (s.1 46 (d - 1).toNat)) (c + 6) n.toNat nm) 46 (d - 1) = m := by
  unfold cNw
  rw [gI_nc (show 46 ≠ (c + 6) by omega), gI_nc (show 46 ≠ 34 by decide), gI_eq]
theorem c1_44 {c : Nat} {s : ST} {n m d pl kd pr nm : Int} (hc : c = 2 ∨ c = 18) : ∀ j, gI (sI (cNw s c n m d pl kd pr (s.1 46 (d - 1).toNat)) (c + 6) n.toNat nm) 44 j = gI s 44 j := by
  intro j
  unfold cNw
  rw [gI_nc (show 44 ≠ (c + 6) by omega), gI_nc (show 44 ≠ 34 by decide), gI_nc (show 44 ≠ 46 by decide), gI_nc (show 44 ≠ 38 by decide), gI_nc (show 44 ≠ 41 by decide), gI_nc (show 44 ≠ 40 by decide), gI_nc (show 44 ≠ 39 by decide), gI_nc (show 44 ≠ 38 by decide), gI_nc (show 44 ≠ 37 by decide), gI_nc (show 44 ≠ 36 by decide), gI_nc (show 44 ≠ (c + 10) by omega), gI_nc (show 44 ≠ (c + 9) by omega), gI_nc (show 44 ≠ (c + 8) by omega), gI_nc (show 44 ≠ (c + 7) by omega), gI_nc (show 44 ≠ (c + 6) by omega), gI_nc (show 44 ≠ (c + 5) by omega), gI_nc (show 44 ≠ (c + 4) by omega), gI_nc (show 44 ≠ (c + 3) by omega), gI_nc (show 44 ≠ (c + 2) by omega), gI_nc (show 44 ≠ c by omega)]
theorem c1_45 {c : Nat} {s : ST} {n m d pl kd pr nm : Int} (hc : c = 2 ∨ c = 18) : ∀ j, gI (sI (cNw s c n m d pl kd pr (s.1 46 (d - 1).toNat)) (c + 6) n.toNat nm) 45 j = gI s 45 j := by
  intro j
  unfold cNw
  rw [gI_nc (show 45 ≠ (c + 6) by omega), gI_nc (show 45 ≠ 34 by decide), gI_nc (show 45 ≠ 46 by decide), gI_nc (show 45 ≠ 38 by decide), gI_nc (show 45 ≠ 41 by decide), gI_nc (show 45 ≠ 40 by decide), gI_nc (show 45 ≠ 39 by decide), gI_nc (show 45 ≠ 38 by decide), gI_nc (show 45 ≠ 37 by decide), gI_nc (show 45 ≠ 36 by decide), gI_nc (show 45 ≠ (c + 10) by omega), gI_nc (show 45 ≠ (c + 9) by omega), gI_nc (show 45 ≠ (c + 8) by omega), gI_nc (show 45 ≠ (c + 7) by omega), gI_nc (show 45 ≠ (c + 6) by omega), gI_nc (show 45 ≠ (c + 5) by omega), gI_nc (show 45 ≠ (c + 4) by omega), gI_nc (show 45 ≠ (c + 3) by omega), gI_nc (show 45 ≠ (c + 2) by omega), gI_nc (show 45 ≠ c by omega)]
theorem c1_47 {c : Nat} {s : ST} {n m d pl kd pr nm : Int} (hc : c = 2 ∨ c = 18) : ∀ j, gI (sI (cNw s c n m d pl kd pr (s.1 46 (d - 1).toNat)) (c + 6) n.toNat nm) 47 j = gI s 47 j := by
  intro j
  unfold cNw
  rw [gI_nc (show 47 ≠ (c + 6) by omega), gI_nc (show 47 ≠ 34 by decide), gI_nc (show 47 ≠ 46 by decide), gI_nc (show 47 ≠ 38 by decide), gI_nc (show 47 ≠ 41 by decide), gI_nc (show 47 ≠ 40 by decide), gI_nc (show 47 ≠ 39 by decide), gI_nc (show 47 ≠ 38 by decide), gI_nc (show 47 ≠ 37 by decide), gI_nc (show 47 ≠ 36 by decide), gI_nc (show 47 ≠ (c + 10) by omega), gI_nc (show 47 ≠ (c + 9) by omega), gI_nc (show 47 ≠ (c + 8) by omega), gI_nc (show 47 ≠ (c + 7) by omega), gI_nc (show 47 ≠ (c + 6) by omega), gI_nc (show 47 ≠ (c + 5) by omega), gI_nc (show 47 ≠ (c + 4) by omega), gI_nc (show 47 ≠ (c + 3) by omega), gI_nc (show 47 ≠ (c + 2) by omega), gI_nc (show 47 ≠ c by omega)]
theorem c1_q2 {c : Nat} {s : ST} {n m d pl kd pr nm : Int} (hc : c = 2 ∨ c = 18) (n0 : 0 ≤ n) : UP (gI s (c + 2)) (gI (sI (cNw s c n m d pl kd pr (s.1 46 (d - 1).toNat)) (c + 6) n.toNat nm) (c + 2)) n := by
  intro j h0 h1
  unfold cNw
  rw [gI_nc (show (c + 2) ≠ (c + 6) by omega), gI_nc (show (c + 2) ≠ 34 by omega), gI_nc (show (c + 2) ≠ 46 by omega), gI_nc (show (c + 2) ≠ 38 by omega), gI_nc (show (c + 2) ≠ 41 by omega), gI_nc (show (c + 2) ≠ 40 by omega), gI_nc (show (c + 2) ≠ 39 by omega), gI_nc (show (c + 2) ≠ 38 by omega), gI_nc (show (c + 2) ≠ 37 by omega), gI_nc (show (c + 2) ≠ 36 by omega), gI_nc (show (c + 2) ≠ (c + 10) by omega), gI_nc (show (c + 2) ≠ (c + 9) by omega), gI_nc (show (c + 2) ≠ (c + 8) by omega), gI_nc (show (c + 2) ≠ (c + 7) by omega), gI_nc (show (c + 2) ≠ (c + 6) by omega), gI_nc (show (c + 2) ≠ (c + 5) by omega), gI_nc (show (c + 2) ≠ (c + 4) by omega), gI_nc (show (c + 2) ≠ (c + 3) by omega), gI_ni h0 (by omega) h1, gI_nc (show (c + 2) ≠ c by omega)]
theorem c1_q3 {c : Nat} {s : ST} {n m d pl kd pr nm : Int} (hc : c = 2 ∨ c = 18) (n0 : 0 ≤ n) : UP (gI s (c + 3)) (gI (sI (cNw s c n m d pl kd pr (s.1 46 (d - 1).toNat)) (c + 6) n.toNat nm) (c + 3)) n := by
  intro j h0 h1
  unfold cNw
  rw [gI_nc (show (c + 3) ≠ (c + 6) by omega), gI_nc (show (c + 3) ≠ 34 by omega), gI_nc (show (c + 3) ≠ 46 by omega), gI_nc (show (c + 3) ≠ 38 by omega), gI_nc (show (c + 3) ≠ 41 by omega), gI_nc (show (c + 3) ≠ 40 by omega), gI_nc (show (c + 3) ≠ 39 by omega), gI_nc (show (c + 3) ≠ 38 by omega), gI_nc (show (c + 3) ≠ 37 by omega), gI_nc (show (c + 3) ≠ 36 by omega), gI_nc (show (c + 3) ≠ (c + 10) by omega), gI_nc (show (c + 3) ≠ (c + 9) by omega), gI_nc (show (c + 3) ≠ (c + 8) by omega), gI_nc (show (c + 3) ≠ (c + 7) by omega), gI_nc (show (c + 3) ≠ (c + 6) by omega), gI_nc (show (c + 3) ≠ (c + 5) by omega), gI_nc (show (c + 3) ≠ (c + 4) by omega), gI_ni h0 (by omega) h1, gI_nc (show (c + 3) ≠ (c + 2) by omega), gI_nc (show (c + 3) ≠ c by omega)]
theorem c1_q4 {c : Nat} {s : ST} {n m d pl kd pr nm : Int} (hc : c = 2 ∨ c = 18) (n0 : 0 ≤ n) : UP (gI s (c + 4)) (gI (sI (cNw s c n m d pl kd pr (s.1 46 (d - 1).toNat)) (c + 6) n.toNat nm) (c + 4)) n := by
  intro j h0 h1
  unfold cNw
  rw [gI_nc (show (c + 4) ≠ (c + 6) by omega), gI_nc (show (c + 4) ≠ 34 by omega), gI_nc (show (c + 4) ≠ 46 by omega), gI_nc (show (c + 4) ≠ 38 by omega), gI_nc (show (c + 4) ≠ 41 by omega), gI_nc (show (c + 4) ≠ 40 by omega), gI_nc (show (c + 4) ≠ 39 by omega), gI_nc (show (c + 4) ≠ 38 by omega), gI_nc (show (c + 4) ≠ 37 by omega), gI_nc (show (c + 4) ≠ 36 by omega), gI_nc (show (c + 4) ≠ (c + 10) by omega), gI_nc (show (c + 4) ≠ (c + 9) by omega), gI_nc (show (c + 4) ≠ (c + 8) by omega), gI_nc (show (c + 4) ≠ (c + 7) by omega), gI_nc (show (c + 4) ≠ (c + 6) by omega), gI_nc (show (c + 4) ≠ (c + 5) by omega), gI_ni h0 (by omega) h1, gI_nc (show (c + 4) ≠ (c + 3) by omega), gI_nc (show (c + 4) ≠ (c + 2) by omega), gI_nc (show (c + 4) ≠ c by omega)]
theorem c1_q5 {c : Nat} {s : ST} {n m d pl kd pr nm : Int} (hc : c = 2 ∨ c = 18) (n0 : 0 ≤ n) : UP (gI s (c + 5)) (gI (sI (cNw s c n m d pl kd pr (s.1 46 (d - 1).toNat)) (c + 6) n.toNat nm) (c + 5)) n := by
  intro j h0 h1
  unfold cNw
  rw [gI_nc (show (c + 5) ≠ (c + 6) by omega), gI_nc (show (c + 5) ≠ 34 by omega), gI_nc (show (c + 5) ≠ 46 by omega), gI_nc (show (c + 5) ≠ 38 by omega), gI_nc (show (c + 5) ≠ 41 by omega), gI_nc (show (c + 5) ≠ 40 by omega), gI_nc (show (c + 5) ≠ 39 by omega), gI_nc (show (c + 5) ≠ 38 by omega), gI_nc (show (c + 5) ≠ 37 by omega), gI_nc (show (c + 5) ≠ 36 by omega), gI_nc (show (c + 5) ≠ (c + 10) by omega), gI_nc (show (c + 5) ≠ (c + 9) by omega), gI_nc (show (c + 5) ≠ (c + 8) by omega), gI_nc (show (c + 5) ≠ (c + 7) by omega), gI_nc (show (c + 5) ≠ (c + 6) by omega), gI_ni h0 (by omega) h1, gI_nc (show (c + 5) ≠ (c + 4) by omega), gI_nc (show (c + 5) ≠ (c + 3) by omega), gI_nc (show (c + 5) ≠ (c + 2) by omega), gI_nc (show (c + 5) ≠ c by omega)]
theorem c1_q6 {c : Nat} {s : ST} {n m d pl kd pr nm : Int} (hc : c = 2 ∨ c = 18) (n0 : 0 ≤ n) : UP (gI s (c + 6)) (gI (sI (cNw s c n m d pl kd pr (s.1 46 (d - 1).toNat)) (c + 6) n.toNat nm) (c + 6)) n := by
  intro j h0 h1
  unfold cNw
  rw [gI_ni h0 (by omega) h1, gI_nc (show (c + 6) ≠ 34 by omega), gI_nc (show (c + 6) ≠ 46 by omega), gI_nc (show (c + 6) ≠ 38 by omega), gI_nc (show (c + 6) ≠ 41 by omega), gI_nc (show (c + 6) ≠ 40 by omega), gI_nc (show (c + 6) ≠ 39 by omega), gI_nc (show (c + 6) ≠ 38 by omega), gI_nc (show (c + 6) ≠ 37 by omega), gI_nc (show (c + 6) ≠ 36 by omega), gI_nc (show (c + 6) ≠ (c + 10) by omega), gI_nc (show (c + 6) ≠ (c + 9) by omega), gI_nc (show (c + 6) ≠ (c + 8) by omega), gI_nc (show (c + 6) ≠ (c + 7) by omega), gI_ni h0 (by omega) h1, gI_nc (show (c + 6) ≠ (c + 5) by omega), gI_nc (show (c + 6) ≠ (c + 4) by omega), gI_nc (show (c + 6) ≠ (c + 3) by omega), gI_nc (show (c + 6) ≠ (c + 2) by omega), gI_nc (show (c + 6) ≠ c by omega)]
theorem c1_q7 {c : Nat} {s : ST} {n m d pl kd pr nm : Int} (hc : c = 2 ∨ c = 18) (n0 : 0 ≤ n) : UP (gI s (c + 7)) (gI (sI (cNw s c n m d pl kd pr (s.1 46 (d - 1).toNat)) (c + 6) n.toNat nm) (c + 7)) n := by
  intro j h0 h1
  unfold cNw
  rw [gI_nc (show (c + 7) ≠ (c + 6) by omega), gI_nc (show (c + 7) ≠ 34 by omega), gI_nc (show (c + 7) ≠ 46 by omega), gI_nc (show (c + 7) ≠ 38 by omega), gI_nc (show (c + 7) ≠ 41 by omega), gI_nc (show (c + 7) ≠ 40 by omega), gI_nc (show (c + 7) ≠ 39 by omega), gI_nc (show (c + 7) ≠ 38 by omega), gI_nc (show (c + 7) ≠ 37 by omega), gI_nc (show (c + 7) ≠ 36 by omega), gI_nc (show (c + 7) ≠ (c + 10) by omega), gI_nc (show (c + 7) ≠ (c + 9) by omega), gI_nc (show (c + 7) ≠ (c + 8) by omega), gI_ni h0 (by omega) h1, gI_nc (show (c + 7) ≠ (c + 6) by omega), gI_nc (show (c + 7) ≠ (c + 5) by omega), gI_nc (show (c + 7) ≠ (c + 4) by omega), gI_nc (show (c + 7) ≠ (c + 3) by omega), gI_nc (show (c + 7) ≠ (c + 2) by omega), gI_nc (show (c + 7) ≠ c by omega)]
theorem c1_q2v {c : Nat} {s : ST} {n m d pl kd pr nm : Int} (hc : c = 2 ∨ c = 18) : gI (sI (cNw s c n m d pl kd pr (s.1 46 (d - 1).toNat)) (c + 6) n.toNat nm) (c + 2) n = kd := by
  unfold cNw
  rw [gI_nc (show (c + 2) ≠ (c + 6) by omega), gI_nc (show (c + 2) ≠ 34 by omega), gI_nc (show (c + 2) ≠ 46 by omega), gI_nc (show (c + 2) ≠ 38 by omega), gI_nc (show (c + 2) ≠ 41 by omega), gI_nc (show (c + 2) ≠ 40 by omega), gI_nc (show (c + 2) ≠ 39 by omega), gI_nc (show (c + 2) ≠ 38 by omega), gI_nc (show (c + 2) ≠ 37 by omega), gI_nc (show (c + 2) ≠ 36 by omega), gI_nc (show (c + 2) ≠ (c + 10) by omega), gI_nc (show (c + 2) ≠ (c + 9) by omega), gI_nc (show (c + 2) ≠ (c + 8) by omega), gI_nc (show (c + 2) ≠ (c + 7) by omega), gI_nc (show (c + 2) ≠ (c + 6) by omega), gI_nc (show (c + 2) ≠ (c + 5) by omega), gI_nc (show (c + 2) ≠ (c + 4) by omega), gI_nc (show (c + 2) ≠ (c + 3) by omega), gI_eq]
theorem c1_q3v {c : Nat} {s : ST} {n m d pl kd pr nm : Int} (hc : c = 2 ∨ c = 18) : gI (sI (cNw s c n m d pl kd pr (s.1 46 (d - 1).toNat)) (c + 6) n.toNat nm) (c + 3) n = pr := by
  unfold cNw
  rw [gI_nc (show (c + 3) ≠ (c + 6) by omega), gI_nc (show (c + 3) ≠ 34 by omega), gI_nc (show (c + 3) ≠ 46 by omega), gI_nc (show (c + 3) ≠ 38 by omega), gI_nc (show (c + 3) ≠ 41 by omega), gI_nc (show (c + 3) ≠ 40 by omega), gI_nc (show (c + 3) ≠ 39 by omega), gI_nc (show (c + 3) ≠ 38 by omega), gI_nc (show (c + 3) ≠ 37 by omega), gI_nc (show (c + 3) ≠ 36 by omega), gI_nc (show (c + 3) ≠ (c + 10) by omega), gI_nc (show (c + 3) ≠ (c + 9) by omega), gI_nc (show (c + 3) ≠ (c + 8) by omega), gI_nc (show (c + 3) ≠ (c + 7) by omega), gI_nc (show (c + 3) ≠ (c + 6) by omega), gI_nc (show (c + 3) ≠ (c + 5) by omega), gI_nc (show (c + 3) ≠ (c + 4) by omega), gI_eq]
theorem c1_q4v {c : Nat} {s : ST} {n m d pl kd pr nm : Int} (hc : c = 2 ∨ c = 18) : gI (sI (cNw s c n m d pl kd pr (s.1 46 (d - 1).toNat)) (c + 6) n.toNat nm) (c + 4) n = d - 1 := by
  unfold cNw
  rw [gI_nc (show (c + 4) ≠ (c + 6) by omega), gI_nc (show (c + 4) ≠ 34 by omega), gI_nc (show (c + 4) ≠ 46 by omega), gI_nc (show (c + 4) ≠ 38 by omega), gI_nc (show (c + 4) ≠ 41 by omega), gI_nc (show (c + 4) ≠ 40 by omega), gI_nc (show (c + 4) ≠ 39 by omega), gI_nc (show (c + 4) ≠ 38 by omega), gI_nc (show (c + 4) ≠ 37 by omega), gI_nc (show (c + 4) ≠ 36 by omega), gI_nc (show (c + 4) ≠ (c + 10) by omega), gI_nc (show (c + 4) ≠ (c + 9) by omega), gI_nc (show (c + 4) ≠ (c + 8) by omega), gI_nc (show (c + 4) ≠ (c + 7) by omega), gI_nc (show (c + 4) ≠ (c + 6) by omega), gI_nc (show (c + 4) ≠ (c + 5) by omega), gI_eq]
theorem c1_q5v {c : Nat} {s : ST} {n m d pl kd pr nm : Int} (hc : c = 2 ∨ c = 18) : gI (sI (cNw s c n m d pl kd pr (s.1 46 (d - 1).toNat)) (c + 6) n.toNat nm) (c + 5) n = pl := by
  unfold cNw
  rw [gI_nc (show (c + 5) ≠ (c + 6) by omega), gI_nc (show (c + 5) ≠ 34 by omega), gI_nc (show (c + 5) ≠ 46 by omega), gI_nc (show (c + 5) ≠ 38 by omega), gI_nc (show (c + 5) ≠ 41 by omega), gI_nc (show (c + 5) ≠ 40 by omega), gI_nc (show (c + 5) ≠ 39 by omega), gI_nc (show (c + 5) ≠ 38 by omega), gI_nc (show (c + 5) ≠ 37 by omega), gI_nc (show (c + 5) ≠ 36 by omega), gI_nc (show (c + 5) ≠ (c + 10) by omega), gI_nc (show (c + 5) ≠ (c + 9) by omega), gI_nc (show (c + 5) ≠ (c + 8) by omega), gI_nc (show (c + 5) ≠ (c + 7) by omega), gI_nc (show (c + 5) ≠ (c + 6) by omega), gI_eq]
theorem c1_q6v {c : Nat} {s : ST} {n m d pl kd pr nm : Int} (hc : c = 2 ∨ c = 18) : gI (sI (cNw s c n m d pl kd pr (s.1 46 (d - 1).toNat)) (c + 6) n.toNat nm) (c + 6) n = nm := by
  unfold cNw
  rw [gI_eq]
theorem c1_q7v {c : Nat} {s : ST} {n m d pl kd pr nm : Int} (hc : c = 2 ∨ c = 18) : gI (sI (cNw s c n m d pl kd pr (s.1 46 (d - 1).toNat)) (c + 6) n.toNat nm) (c + 7) n = -2 := by
  unfold cNw
  rw [gI_nc (show (c + 7) ≠ (c + 6) by omega), gI_nc (show (c + 7) ≠ 34 by omega), gI_nc (show (c + 7) ≠ 46 by omega), gI_nc (show (c + 7) ≠ 38 by omega), gI_nc (show (c + 7) ≠ 41 by omega), gI_nc (show (c + 7) ≠ 40 by omega), gI_nc (show (c + 7) ≠ 39 by omega), gI_nc (show (c + 7) ≠ 38 by omega), gI_nc (show (c + 7) ≠ 37 by omega), gI_nc (show (c + 7) ≠ 36 by omega), gI_nc (show (c + 7) ≠ (c + 10) by omega), gI_nc (show (c + 7) ≠ (c + 9) by omega), gI_nc (show (c + 7) ≠ (c + 8) by omega), gI_eq]
theorem c1_c0 {c : Nat} {s : ST} {n m d pl kd pr nm : Int} (hc : c = 2 ∨ c = 18) : gI (sI (cNw s c n m d pl kd pr (s.1 46 (d - 1).toNat)) (c + 6) n.toNat nm) c 0 = n + 1 := by
  show ((sI (cNw s c n m d pl kd pr (s.1 46 (d - 1).toNat)) (c + 6) n.toNat nm)).1 c 0 = n + 1
  unfold cNw
  rw [sI_nc (p := c) (show c ≠ (c + 6) by omega), sI_nc (p := c) (show c ≠ 34 by omega), sI_nc (p := c) (show c ≠ 46 by omega), sI_nc (p := c) (show c ≠ 38 by omega), sI_nc (p := c) (show c ≠ 41 by omega), sI_nc (p := c) (show c ≠ 40 by omega), sI_nc (p := c) (show c ≠ 39 by omega), sI_nc (p := c) (show c ≠ 38 by omega), sI_nc (p := c) (show c ≠ 37 by omega), sI_nc (p := c) (show c ≠ 36 by omega), sI_nc (p := c) (show c ≠ (c + 10) by omega), sI_nc (p := c) (show c ≠ (c + 9) by omega), sI_nc (p := c) (show c ≠ (c + 8) by omega), sI_nc (p := c) (show c ≠ (c + 7) by omega), sI_nc (p := c) (show c ≠ (c + 6) by omega), sI_nc (p := c) (show c ≠ (c + 5) by omega), sI_nc (p := c) (show c ≠ (c + 4) by omega), sI_nc (p := c) (show c ≠ (c + 3) by omega), sI_nc (p := c) (show c ≠ (c + 2) by omega), sI_eq]
theorem c1_c1 {c : Nat} {s : ST} {n m d pl kd pr nm : Int} (hc : c = 2 ∨ c = 18) : gI (sI (cNw s c n m d pl kd pr (s.1 46 (d - 1).toNat)) (c + 6) n.toNat nm) c 1 = gI s c 1 := by
  show ((sI (cNw s c n m d pl kd pr (s.1 46 (d - 1).toNat)) (c + 6) n.toNat nm)).1 c 1 = s.1 c 1
  unfold cNw
  rw [sI_nc (p := c) (show c ≠ (c + 6) by omega), sI_nc (p := c) (show c ≠ 34 by omega), sI_nc (p := c) (show c ≠ 46 by omega), sI_nc (p := c) (show c ≠ 38 by omega), sI_nc (p := c) (show c ≠ 41 by omega), sI_nc (p := c) (show c ≠ 40 by omega), sI_nc (p := c) (show c ≠ 39 by omega), sI_nc (p := c) (show c ≠ 38 by omega), sI_nc (p := c) (show c ≠ 37 by omega), sI_nc (p := c) (show c ≠ 36 by omega), sI_nc (p := c) (show c ≠ (c + 10) by omega), sI_nc (p := c) (show c ≠ (c + 9) by omega), sI_nc (p := c) (show c ≠ (c + 8) by omega), sI_nc (p := c) (show c ≠ (c + 7) by omega), sI_nc (p := c) (show c ≠ (c + 6) by omega), sI_nc (p := c) (show c ≠ (c + 5) by omega), sI_nc (p := c) (show c ≠ (c + 4) by omega), sI_nc (p := c) (show c ≠ (c + 3) by omega), sI_nc (p := c) (show c ≠ (c + 2) by omega), sI_ne (p := c) (q := 1) (by omega)]
theorem c1_d3 {c : Nat} {s : ST} {n m d pl kd pr nm : Int} (hc : c = 2 ∨ c = 18) : gI (sI (cNw s c n m d pl kd pr (s.1 46 (d - 1).toNat)) (c + 6) n.toNat nm) c 3 = gI s c 3 := by
  show ((sI (cNw s c n m d pl kd pr (s.1 46 (d - 1).toNat)) (c + 6) n.toNat nm)).1 c 3 = s.1 c 3
  unfold cNw
  rw [sI_nc (p := c) (show c ≠ (c + 6) by omega), sI_nc (p := c) (show c ≠ 34 by omega), sI_nc (p := c) (show c ≠ 46 by omega), sI_nc (p := c) (show c ≠ 38 by omega), sI_nc (p := c) (show c ≠ 41 by omega), sI_nc (p := c) (show c ≠ 40 by omega), sI_nc (p := c) (show c ≠ 39 by omega), sI_nc (p := c) (show c ≠ 38 by omega), sI_nc (p := c) (show c ≠ 37 by omega), sI_nc (p := c) (show c ≠ 36 by omega), sI_nc (p := c) (show c ≠ (c + 10) by omega), sI_nc (p := c) (show c ≠ (c + 9) by omega), sI_nc (p := c) (show c ≠ (c + 8) by omega), sI_nc (p := c) (show c ≠ (c + 7) by omega), sI_nc (p := c) (show c ≠ (c + 6) by omega), sI_nc (p := c) (show c ≠ (c + 5) by omega), sI_nc (p := c) (show c ≠ (c + 4) by omega), sI_nc (p := c) (show c ≠ (c + 3) by omega), sI_nc (p := c) (show c ≠ (c + 2) by omega), sI_ne (p := c) (q := 3) (by omega)]
theorem c1_d4 {c : Nat} {s : ST} {n m d pl kd pr nm : Int} (hc : c = 2 ∨ c = 18) : gI (sI (cNw s c n m d pl kd pr (s.1 46 (d - 1).toNat)) (c + 6) n.toNat nm) c 4 = gI s c 4 := by
  show ((sI (cNw s c n m d pl kd pr (s.1 46 (d - 1).toNat)) (c + 6) n.toNat nm)).1 c 4 = s.1 c 4
  unfold cNw
  rw [sI_nc (p := c) (show c ≠ (c + 6) by omega), sI_nc (p := c) (show c ≠ 34 by omega), sI_nc (p := c) (show c ≠ 46 by omega), sI_nc (p := c) (show c ≠ 38 by omega), sI_nc (p := c) (show c ≠ 41 by omega), sI_nc (p := c) (show c ≠ 40 by omega), sI_nc (p := c) (show c ≠ 39 by omega), sI_nc (p := c) (show c ≠ 38 by omega), sI_nc (p := c) (show c ≠ 37 by omega), sI_nc (p := c) (show c ≠ 36 by omega), sI_nc (p := c) (show c ≠ (c + 10) by omega), sI_nc (p := c) (show c ≠ (c + 9) by omega), sI_nc (p := c) (show c ≠ (c + 8) by omega), sI_nc (p := c) (show c ≠ (c + 7) by omega), sI_nc (p := c) (show c ≠ (c + 6) by omega), sI_nc (p := c) (show c ≠ (c + 5) by omega), sI_nc (p := c) (show c ≠ (c + 4) by omega), sI_nc (p := c) (show c ≠ (c + 3) by omega), sI_nc (p := c) (show c ≠ (c + 2) by omega), sI_ne (p := c) (q := 4) (by omega)]
theorem c1_36 {c : Nat} {s : ST} {n m d pl kd pr nm : Int} (hc : c = 2 ∨ c = 18) : gI (sI (cNw s c n m d pl kd pr (s.1 46 (d - 1).toNat)) (c + 6) n.toNat nm) 36 0 = m + 1 := by
  show ((sI (cNw s c n m d pl kd pr (s.1 46 (d - 1).toNat)) (c + 6) n.toNat nm)).1 36 0 = m + 1
  unfold cNw
  rw [sI_nc (p := 36) (show 36 ≠ (c + 6) by omega), sI_nc (p := 36) (show 36 ≠ 34 by decide), sI_nc (p := 36) (show 36 ≠ 46 by decide), sI_nc (p := 36) (show 36 ≠ 38 by decide), sI_nc (p := 36) (show 36 ≠ 41 by decide), sI_nc (p := 36) (show 36 ≠ 40 by decide), sI_nc (p := 36) (show 36 ≠ 39 by decide), sI_nc (p := 36) (show 36 ≠ 38 by decide), sI_nc (p := 36) (show 36 ≠ 37 by decide), sI_eq]
theorem c1_o7 {c : Nat} {s : ST} {n m d pl kd pr nm : Int} (hc : c = 2 ∨ c = 18) : ((sI (cNw s c n m d pl kd pr (s.1 46 (d - 1).toNat)) (c + 6) n.toNat nm)).1 34 7 = s.1 34 7 := by
  unfold cNw
  rw [sI_nc (p := 34) (show 34 ≠ (c + 6) by omega), sI_ne (p := 34) (q := 7) (by omega), sI_nc (p := 34) (show 34 ≠ 46 by decide), sI_nc (p := 34) (show 34 ≠ 38 by decide), sI_nc (p := 34) (show 34 ≠ 41 by decide), sI_nc (p := 34) (show 34 ≠ 40 by decide), sI_nc (p := 34) (show 34 ≠ 39 by decide), sI_nc (p := 34) (show 34 ≠ 38 by decide), sI_nc (p := 34) (show 34 ≠ 37 by decide), sI_nc (p := 34) (show 34 ≠ 36 by decide), sI_nc (p := 34) (show 34 ≠ (c + 10) by omega), sI_nc (p := 34) (show 34 ≠ (c + 9) by omega), sI_nc (p := 34) (show 34 ≠ (c + 8) by omega), sI_nc (p := 34) (show 34 ≠ (c + 7) by omega), sI_nc (p := 34) (show 34 ≠ (c + 6) by omega), sI_nc (p := 34) (show 34 ≠ (c + 5) by omega), sI_nc (p := 34) (show 34 ≠ (c + 4) by omega), sI_nc (p := 34) (show 34 ≠ (c + 3) by omega), sI_nc (p := 34) (show 34 ≠ (c + 2) by omega), sI_nc (p := 34) (show 34 ≠ c by omega)]
theorem RR.cre {c : Nat} {S d pc n m b l f p d1 at1 nm its pl kd pr : Int} {B : Int → Int} {s t : ST} (hc : c = 2 ∨ c = 18) (S0 : 0 ≤ S) (h : RR c S d pc B s t) (hd : 1 ≤ d) (hb : b = B (d - 1)) (hm : m = gI t 73 S) (hn : n = gI t 75 S) (hl : l = gI t 91 b) (hf : f = gI t 90 b) (n39 : n ≤ 39) (h6 : its ≠ 6) (hkd : kd = its) (hpr : pr = p) (hd1 : d - 1 = d1) (hat : pl = at1) (hpp : p = pc) : RR c S d pc B (sI (cNw s c n m d pl kd pr (s.1 46 (d - 1).toNat)) (c + 6) n.toNat nm) (mCl (mC1 t S n m p d1 at1 nm its b) S m at1 b f l) := by
  have hK := h
  obtain ⟨k1, k2, k3, k4, k5, k6, k7, k8⟩ := hK
  have hB := k6 (d - 1) (by omega) (by omega)
  rw [← hb] at hB
  have b0 : 0 ≤ b := by have := hB.1.1; omega
  have hk4 := k4 b hB.1
  have hk1 := k1.1
  have n0 : 0 ≤ n := by have := k1.2.2.2.1; omega
  have m0 : 0 ≤ m := by have := k1.2.2.2.2.2.1; omega
  have hlt : l < 130 * S + m := by rcases hk4 with z | z; (omega); (have := z.1.2; omega)
  have hfl : ¬ f = -1 → 0 ≤ l := fun z => by rcases hk4 with y | y; (omega); (have := y.1.1; omega)
  have hlf : f = -1 → l = -1 := fun z => by rcases hk4 with y | y; (omega); (exact absurd (hf.symm.trans z) y.2.2.2)
  refine RR.item S0 h hd hb hm hn hl ?_ ?_ ?_ ?_ ?_ ?_ ?_ ?_ ?_ ?_ ?_ ?_ ?_ ?_ ?_ ?_ ?_ ?_ ?_ ?_ ?_ ?_ ?_ ?_ ?_ ?_ ?_ ?_ ?_ ?_ ?_ ?_ ?_ ?_ ?_ ?_ ?_ ?_ ?_ ?_ ?_ ?_ ?_ ?_ ?_ ?_ ?_
  · exact (by rw [mCl_o (q := 73) (by decide) (by decide) (by decide) (by decide)]; exact m1_73v)
  · exact (by rw [mCl_o (q := 74) (by decide) (by decide) (by decide) (by decide), m1_o (by decide) (by decide) (by decide) (by decide) (by decide) (by decide) (by decide) (by decide) (by decide) (by decide) (by decide) (by decide) (by decide) (by decide) (by decide) (by decide)])
  · exact (by rw [mCl_o (q := 76) (by decide) (by decide) (by decide) (by decide), m1_o (by decide) (by decide) (by decide) (by decide) (by decide) (by decide) (by decide) (by decide) (by decide) (by decide) (by decide) (by decide) (by decide) (by decide) (by decide) (by decide)])
  · exact (by rw [mCl_o (q := 77) (by decide) (by decide) (by decide) (by decide)]; exact m1_77 S0 m0)
  · exact (by rw [mCl_o (q := 78) (by decide) (by decide) (by decide) (by decide)]; exact m1_78 S0 m0)
  · exact (by rw [mCl_o (q := 79) (by decide) (by decide) (by decide) (by decide)]; exact m1_79 S0 m0)
  · exact (by rw [mCl_o (q := 80) (by decide) (by decide) (by decide) (by decide)]; exact m1_80 S0 m0)
  · exact (by rw [mCl_o (q := 81) (by decide) (by decide) (by decide) (by decide)]; exact m1_81 S0 m0)
  · exact (by rw [mCl_o (q := 82) (by decide) (by decide) (by decide) (by decide)]; exact m1_82 S0 m0)
  · exact (by rw [mCl_o (q := 84) (by decide) (by decide) (by decide) (by decide)]; exact m1_84 S0 m0)
  · exact (by rw [mCl_o (q := 85) (by decide) (by decide) (by decide) (by decide)]; exact m1_85 S0 m0)
  · exact (by rw [mCl_o (q := 86) (by decide) (by decide) (by decide) (by decide)]; exact m1_86 S0 m0)
  · exact (by rw [mCl_o (q := 88) (by decide) (by decide) (by decide) (by decide)]; exact m1_88 S0 m0)
  · exact (by rw [mCl_o (q := 85) (by decide) (by decide) (by decide) (by decide)]; exact m1_85v)
  · exact (by rw [mCl_o (q := 86) (by decide) (by decide) (by decide) (by decide)]; exact m1_86v)
  · exact (by rw [mCl_o (q := 88) (by decide) (by decide) (by decide) (by decide)]; exact m1_88v)
  · exact (by rw [mCl_87 (by omega) hfl (by omega)]; exact m1_87v)
  · exact (fun j h0 h1 h2 => by rw [mCl_87 h0 hfl h2]; exact m1_87 S0 m0 j h0 h1)
  · exact (fun h0 => mCl_87v (fun z => h0 (hlf z)))
  · exact (fun j h0 h1 => by rw [mCl_90 h0 b0 h1, m1_o (by decide) (by decide) (by decide) (by decide) (by decide) (by decide) (by decide) (by decide) (by decide) (by decide) (by decide) (by decide) (by decide) (by decide) (by decide) (by decide)])
  · exact (by rw [← hf]; exact mCl_90v (by rw [m1_o (by decide) (by decide) (by decide) (by decide) (by decide) (by decide) (by decide) (by decide) (by decide) (by decide) (by decide) (by decide) (by decide) (by decide) (by decide) (by decide)]; exact hf.symm))
  · exact (fun j h0 h1 => by rw [mCl_91 h0 b0 h1, m1_o (by decide) (by decide) (by decide) (by decide) (by decide) (by decide) (by decide) (by decide) (by decide) (by decide) (by decide) (by decide) (by decide) (by decide) (by decide) (by decide)])
  · exact mCl_91v
  · exact (fun j => by rw [mCl_o (q := 92) (by decide) (by decide) (by decide) (by decide), m1_o (by decide) (by decide) (by decide) (by decide) (by decide) (by decide) (by decide) (by decide) (by decide) (by decide) (by decide) (by decide) (by decide) (by decide) (by decide) (by decide)])
  · exact (fun j => by rw [mCl_o (q := 94) (by decide) (by decide) (by decide) (by decide), m1_o (by decide) (by decide) (by decide) (by decide) (by decide) (by decide) (by decide) (by decide) (by decide) (by decide) (by decide) (by decide) (by decide) (by decide) (by decide) (by decide)])
  · exact (Or.inr ⟨(by rw [mCl_o (q := 75) (by decide) (by decide) (by decide) (by decide)]; exact m1_75v), by omega, (by rw [mCl_o (q := 93) (by decide) (by decide) (by decide) (by decide)]; exact m1_93 S0 n0), (by rw [mCl_o (q := 93) (by decide) (by decide) (by decide) (by decide)]; exact m1_93v), (by rw [mCl_o (q := 78) (by decide) (by decide) (by decide) (by decide)]; exact m1_78v), (by rw [mCl_o (q := 77) (by decide) (by decide) (by decide) (by decide), m1_77v]; exact h6), (fun q y1 y2 => by have y3 : q = 2 ∨ q = 3 ∨ q = 4 ∨ q = 5 ∨ q = 6 ∨ q = 7 := (by omega); rcases y3 with rfl | rfl | rfl | rfl | rfl | rfl; (exact c1_q2 hc n0); (exact c1_q3 hc n0); (exact c1_q4 hc n0); (exact c1_q5 hc n0); (exact c1_q6 hc n0); (exact c1_q7 hc n0)), (by rw [c1_q2v hc, mCl_o (q := 77) (by decide) (by decide) (by decide) (by decide), m1_77v]; exact hkd), (by rw [c1_q3v hc, mCl_o (q := 79) (by decide) (by decide) (by decide) (by decide), m1_79v]; exact hpr), (by rw [c1_q4v hc, mCl_o (q := 80) (by decide) (by decide) (by decide) (by decide), m1_80v]; exact hd1), (by rw [c1_q5v hc, mCl_o (q := 81) (by decide) (by decide) (by decide) (by decide), m1_81v]; exact hat), (by rw [c1_q6v hc, mCl_o (q := 82) (by decide) (by decide) (by decide) (by decide), m1_82v]), (by rw [c1_q7v hc, mCl_o (q := 84) (by decide) (by decide) (by decide) (by decide), m1_84v])⟩)
  · exact (by rw [c1_c0 hc, mCl_o (q := 75) (by decide) (by decide) (by decide) (by decide), m1_75v])
  · exact (c1_c1 hc)
  · exact (c1_36 hc)
  · exact (c1_37 hc m0)
  · exact (by rw [c1_37v hc, mCl_o (q := 78) (by decide) (by decide) (by decide) (by decide), m1_78v])
  · exact (c1_38 hc m0)
  · exact (c1_38v hc)
  · exact (c1_39 hc m0)
  · exact (c1_39v hc)
  · exact (c1_40 hc m0)
  · exact (c1_40v hc)
  · exact (c1_41 hc m0)
  · exact (c1_44 hc)
  · exact (c1_45 hc)
  · exact (c1_46 hc hd)
  · exact (c1_46v hc)
  · exact (c1_47 hc)
  · exact (c1_o7 hc)
  · exact (by rw [mCl_o (q := 79) (by decide) (by decide) (by decide) (by decide), m1_79v]; exact hpp)
  · exact (c1_d3 hc)
  · exact (c1_d4 hc)
theorem m0_o {t : ST} {S m p d1 at1 nm its b : Int} {q : Nat} (h73 : q ≠ 73) (h77 : q ≠ 77) (h78 : q ≠ 78) (h79 : q ≠ 79) (h80 : q ≠ 80) (h81 : q ≠ 81) (h82 : q ≠ 82) (h83 : q ≠ 83) (h84 : q ≠ 84) (h85 : q ≠ 85) (h86 : q ≠ 86) (h87 : q ≠ 87) (h88 : q ≠ 88) (h89 : q ≠ 89) : gI (mC0 t S m p d1 at1 nm its b) q = gI t q := by
  unfold mC0
  funext j
  rw [gI_nc h89, gI_nc h89, gI_nc h88, gI_nc h87, gI_nc h86, gI_nc h85, gI_nc h84, gI_nc h83, gI_nc h82, gI_nc h81, gI_nc h80, gI_nc h79, gI_nc h78, gI_nc h77, gI_nc h73]
theorem m0_77 {t : ST} {S m p d1 at1 nm its b : Int} (S0 : 0 ≤ S) (m0 : 0 ≤ m) : UP (gI t 77) (gI (mC0 t S m p d1 at1 nm its b) 77) (130 * S + m) := by
  intro j h0 h1
  unfold mC0
  rw [gI_nc (show 77 ≠ 89 by decide), gI_nc (show 77 ≠ 89 by decide), gI_nc (show 77 ≠ 88 by decide), gI_nc (show 77 ≠ 87 by decide), gI_nc (show 77 ≠ 86 by decide), gI_nc (show 77 ≠ 85 by decide), gI_nc (show 77 ≠ 84 by decide), gI_nc (show 77 ≠ 83 by decide), gI_nc (show 77 ≠ 82 by decide), gI_nc (show 77 ≠ 81 by decide), gI_nc (show 77 ≠ 80 by decide), gI_nc (show 77 ≠ 79 by decide), gI_nc (show 77 ≠ 78 by decide), gI_ni h0 (by omega) h1, gI_nc (show 77 ≠ 73 by decide)]
theorem m0_78 {t : ST} {S m p d1 at1 nm its b : Int} (S0 : 0 ≤ S) (m0 : 0 ≤ m) : UP (gI t 78) (gI (mC0 t S m p d1 at1 nm its b) 78) (130 * S + m) := by
  intro j h0 h1
  unfold mC0
  rw [gI_nc (show 78 ≠ 89 by decide), gI_nc (show 78 ≠ 89 by decide), gI_nc (show 78 ≠ 88 by decide), gI_nc (show 78 ≠ 87 by decide), gI_nc (show 78 ≠ 86 by decide), gI_nc (show 78 ≠ 85 by decide), gI_nc (show 78 ≠ 84 by decide), gI_nc (show 78 ≠ 83 by decide), gI_nc (show 78 ≠ 82 by decide), gI_nc (show 78 ≠ 81 by decide), gI_nc (show 78 ≠ 80 by decide), gI_nc (show 78 ≠ 79 by decide), gI_ni h0 (by omega) h1, gI_nc (show 78 ≠ 77 by decide), gI_nc (show 78 ≠ 73 by decide)]
theorem m0_79 {t : ST} {S m p d1 at1 nm its b : Int} (S0 : 0 ≤ S) (m0 : 0 ≤ m) : UP (gI t 79) (gI (mC0 t S m p d1 at1 nm its b) 79) (130 * S + m) := by
  intro j h0 h1
  unfold mC0
  rw [gI_nc (show 79 ≠ 89 by decide), gI_nc (show 79 ≠ 89 by decide), gI_nc (show 79 ≠ 88 by decide), gI_nc (show 79 ≠ 87 by decide), gI_nc (show 79 ≠ 86 by decide), gI_nc (show 79 ≠ 85 by decide), gI_nc (show 79 ≠ 84 by decide), gI_nc (show 79 ≠ 83 by decide), gI_nc (show 79 ≠ 82 by decide), gI_nc (show 79 ≠ 81 by decide), gI_nc (show 79 ≠ 80 by decide), gI_ni h0 (by omega) h1, gI_nc (show 79 ≠ 78 by decide), gI_nc (show 79 ≠ 77 by decide), gI_nc (show 79 ≠ 73 by decide)]
theorem m0_80 {t : ST} {S m p d1 at1 nm its b : Int} (S0 : 0 ≤ S) (m0 : 0 ≤ m) : UP (gI t 80) (gI (mC0 t S m p d1 at1 nm its b) 80) (130 * S + m) := by
  intro j h0 h1
  unfold mC0
  rw [gI_nc (show 80 ≠ 89 by decide), gI_nc (show 80 ≠ 89 by decide), gI_nc (show 80 ≠ 88 by decide), gI_nc (show 80 ≠ 87 by decide), gI_nc (show 80 ≠ 86 by decide), gI_nc (show 80 ≠ 85 by decide), gI_nc (show 80 ≠ 84 by decide), gI_nc (show 80 ≠ 83 by decide), gI_nc (show 80 ≠ 82 by decide), gI_nc (show 80 ≠ 81 by decide), gI_ni h0 (by omega) h1, gI_nc (show 80 ≠ 79 by decide), gI_nc (show 80 ≠ 78 by decide), gI_nc (show 80 ≠ 77 by decide), gI_nc (show 80 ≠ 73 by decide)]
theorem m0_81 {t : ST} {S m p d1 at1 nm its b : Int} (S0 : 0 ≤ S) (m0 : 0 ≤ m) : UP (gI t 81) (gI (mC0 t S m p d1 at1 nm its b) 81) (130 * S + m) := by
  intro j h0 h1
  unfold mC0
  rw [gI_nc (show 81 ≠ 89 by decide), gI_nc (show 81 ≠ 89 by decide), gI_nc (show 81 ≠ 88 by decide), gI_nc (show 81 ≠ 87 by decide), gI_nc (show 81 ≠ 86 by decide), gI_nc (show 81 ≠ 85 by decide), gI_nc (show 81 ≠ 84 by decide), gI_nc (show 81 ≠ 83 by decide), gI_nc (show 81 ≠ 82 by decide), gI_ni h0 (by omega) h1, gI_nc (show 81 ≠ 80 by decide), gI_nc (show 81 ≠ 79 by decide), gI_nc (show 81 ≠ 78 by decide), gI_nc (show 81 ≠ 77 by decide), gI_nc (show 81 ≠ 73 by decide)]
theorem m0_82 {t : ST} {S m p d1 at1 nm its b : Int} (S0 : 0 ≤ S) (m0 : 0 ≤ m) : UP (gI t 82) (gI (mC0 t S m p d1 at1 nm its b) 82) (130 * S + m) := by
  intro j h0 h1
  unfold mC0
  rw [gI_nc (show 82 ≠ 89 by decide), gI_nc (show 82 ≠ 89 by decide), gI_nc (show 82 ≠ 88 by decide), gI_nc (show 82 ≠ 87 by decide), gI_nc (show 82 ≠ 86 by decide), gI_nc (show 82 ≠ 85 by decide), gI_nc (show 82 ≠ 84 by decide), gI_nc (show 82 ≠ 83 by decide), gI_ni h0 (by omega) h1, gI_nc (show 82 ≠ 81 by decide), gI_nc (show 82 ≠ 80 by decide), gI_nc (show 82 ≠ 79 by decide), gI_nc (show 82 ≠ 78 by decide), gI_nc (show 82 ≠ 77 by decide), gI_nc (show 82 ≠ 73 by decide)]
theorem m0_84 {t : ST} {S m p d1 at1 nm its b : Int} (S0 : 0 ≤ S) (m0 : 0 ≤ m) : UP (gI t 84) (gI (mC0 t S m p d1 at1 nm its b) 84) (130 * S + m) := by
  intro j h0 h1
  unfold mC0
  rw [gI_nc (show 84 ≠ 89 by decide), gI_nc (show 84 ≠ 89 by decide), gI_nc (show 84 ≠ 88 by decide), gI_nc (show 84 ≠ 87 by decide), gI_nc (show 84 ≠ 86 by decide), gI_nc (show 84 ≠ 85 by decide), gI_ni h0 (by omega) h1, gI_nc (show 84 ≠ 83 by decide), gI_nc (show 84 ≠ 82 by decide), gI_nc (show 84 ≠ 81 by decide), gI_nc (show 84 ≠ 80 by decide), gI_nc (show 84 ≠ 79 by decide), gI_nc (show 84 ≠ 78 by decide), gI_nc (show 84 ≠ 77 by decide), gI_nc (show 84 ≠ 73 by decide)]
theorem m0_85 {t : ST} {S m p d1 at1 nm its b : Int} (S0 : 0 ≤ S) (m0 : 0 ≤ m) : UP (gI t 85) (gI (mC0 t S m p d1 at1 nm its b) 85) (130 * S + m) := by
  intro j h0 h1
  unfold mC0
  rw [gI_nc (show 85 ≠ 89 by decide), gI_nc (show 85 ≠ 89 by decide), gI_nc (show 85 ≠ 88 by decide), gI_nc (show 85 ≠ 87 by decide), gI_nc (show 85 ≠ 86 by decide), gI_ni h0 (by omega) h1, gI_nc (show 85 ≠ 84 by decide), gI_nc (show 85 ≠ 83 by decide), gI_nc (show 85 ≠ 82 by decide), gI_nc (show 85 ≠ 81 by decide), gI_nc (show 85 ≠ 80 by decide), gI_nc (show 85 ≠ 79 by decide), gI_nc (show 85 ≠ 78 by decide), gI_nc (show 85 ≠ 77 by decide), gI_nc (show 85 ≠ 73 by decide)]
theorem m0_86 {t : ST} {S m p d1 at1 nm its b : Int} (S0 : 0 ≤ S) (m0 : 0 ≤ m) : UP (gI t 86) (gI (mC0 t S m p d1 at1 nm its b) 86) (130 * S + m) := by
  intro j h0 h1
  unfold mC0
  rw [gI_nc (show 86 ≠ 89 by decide), gI_nc (show 86 ≠ 89 by decide), gI_nc (show 86 ≠ 88 by decide), gI_nc (show 86 ≠ 87 by decide), gI_ni h0 (by omega) h1, gI_nc (show 86 ≠ 85 by decide), gI_nc (show 86 ≠ 84 by decide), gI_nc (show 86 ≠ 83 by decide), gI_nc (show 86 ≠ 82 by decide), gI_nc (show 86 ≠ 81 by decide), gI_nc (show 86 ≠ 80 by decide), gI_nc (show 86 ≠ 79 by decide), gI_nc (show 86 ≠ 78 by decide), gI_nc (show 86 ≠ 77 by decide), gI_nc (show 86 ≠ 73 by decide)]
theorem m0_87 {t : ST} {S m p d1 at1 nm its b : Int} (S0 : 0 ≤ S) (m0 : 0 ≤ m) : UP (gI t 87) (gI (mC0 t S m p d1 at1 nm its b) 87) (130 * S + m) := by
  intro j h0 h1
  unfold mC0
  rw [gI_nc (show 87 ≠ 89 by decide), gI_nc (show 87 ≠ 89 by decide), gI_nc (show 87 ≠ 88 by decide), gI_ni h0 (by omega) h1, gI_nc (show 87 ≠ 86 by decide), gI_nc (show 87 ≠ 85 by decide), gI_nc (show 87 ≠ 84 by decide), gI_nc (show 87 ≠ 83 by decide), gI_nc (show 87 ≠ 82 by decide), gI_nc (show 87 ≠ 81 by decide), gI_nc (show 87 ≠ 80 by decide), gI_nc (show 87 ≠ 79 by decide), gI_nc (show 87 ≠ 78 by decide), gI_nc (show 87 ≠ 77 by decide), gI_nc (show 87 ≠ 73 by decide)]
theorem m0_88 {t : ST} {S m p d1 at1 nm its b : Int} (S0 : 0 ≤ S) (m0 : 0 ≤ m) : UP (gI t 88) (gI (mC0 t S m p d1 at1 nm its b) 88) (130 * S + m) := by
  intro j h0 h1
  unfold mC0
  rw [gI_nc (show 88 ≠ 89 by decide), gI_nc (show 88 ≠ 89 by decide), gI_ni h0 (by omega) h1, gI_nc (show 88 ≠ 87 by decide), gI_nc (show 88 ≠ 86 by decide), gI_nc (show 88 ≠ 85 by decide), gI_nc (show 88 ≠ 84 by decide), gI_nc (show 88 ≠ 83 by decide), gI_nc (show 88 ≠ 82 by decide), gI_nc (show 88 ≠ 81 by decide), gI_nc (show 88 ≠ 80 by decide), gI_nc (show 88 ≠ 79 by decide), gI_nc (show 88 ≠ 78 by decide), gI_nc (show 88 ≠ 77 by decide), gI_nc (show 88 ≠ 73 by decide)]
theorem m0_73v {t : ST} {S m p d1 at1 nm its b : Int} : gI (mC0 t S m p d1 at1 nm its b) 73 S = (m + 1) := by
  unfold mC0
  rw [gI_nc (show 73 ≠ 89 by decide), gI_nc (show 73 ≠ 89 by decide), gI_nc (show 73 ≠ 88 by decide), gI_nc (show 73 ≠ 87 by decide), gI_nc (show 73 ≠ 86 by decide), gI_nc (show 73 ≠ 85 by decide), gI_nc (show 73 ≠ 84 by decide), gI_nc (show 73 ≠ 83 by decide), gI_nc (show 73 ≠ 82 by decide), gI_nc (show 73 ≠ 81 by decide), gI_nc (show 73 ≠ 80 by decide), gI_nc (show 73 ≠ 79 by decide), gI_nc (show 73 ≠ 78 by decide), gI_nc (show 73 ≠ 77 by decide), gI_eq]
theorem m0_77v {t : ST} {S m p d1 at1 nm its b : Int} : gI (mC0 t S m p d1 at1 nm its b) 77 (130 * S + m) = its := by
  unfold mC0
  rw [gI_nc (show 77 ≠ 89 by decide), gI_nc (show 77 ≠ 89 by decide), gI_nc (show 77 ≠ 88 by decide), gI_nc (show 77 ≠ 87 by decide), gI_nc (show 77 ≠ 86 by decide), gI_nc (show 77 ≠ 85 by decide), gI_nc (show 77 ≠ 84 by decide), gI_nc (show 77 ≠ 83 by decide), gI_nc (show 77 ≠ 82 by decide), gI_nc (show 77 ≠ 81 by decide), gI_nc (show 77 ≠ 80 by decide), gI_nc (show 77 ≠ 79 by decide), gI_nc (show 77 ≠ 78 by decide), gI_eq]
theorem m0_78v {t : ST} {S m p d1 at1 nm its b : Int} : gI (mC0 t S m p d1 at1 nm its b) 78 (130 * S + m) = (-1) := by
  unfold mC0
  rw [gI_nc (show 78 ≠ 89 by decide), gI_nc (show 78 ≠ 89 by decide), gI_nc (show 78 ≠ 88 by decide), gI_nc (show 78 ≠ 87 by decide), gI_nc (show 78 ≠ 86 by decide), gI_nc (show 78 ≠ 85 by decide), gI_nc (show 78 ≠ 84 by decide), gI_nc (show 78 ≠ 83 by decide), gI_nc (show 78 ≠ 82 by decide), gI_nc (show 78 ≠ 81 by decide), gI_nc (show 78 ≠ 80 by decide), gI_nc (show 78 ≠ 79 by decide), gI_eq]
theorem m0_79v {t : ST} {S m p d1 at1 nm its b : Int} : gI (mC0 t S m p d1 at1 nm its b) 79 (130 * S + m) = p := by
  unfold mC0
  rw [gI_nc (show 79 ≠ 89 by decide), gI_nc (show 79 ≠ 89 by decide), gI_nc (show 79 ≠ 88 by decide), gI_nc (show 79 ≠ 87 by decide), gI_nc (show 79 ≠ 86 by decide), gI_nc (show 79 ≠ 85 by decide), gI_nc (show 79 ≠ 84 by decide), gI_nc (show 79 ≠ 83 by decide), gI_nc (show 79 ≠ 82 by decide), gI_nc (show 79 ≠ 81 by decide), gI_nc (show 79 ≠ 80 by decide), gI_eq]
theorem m0_82v {t : ST} {S m p d1 at1 nm its b : Int} : gI (mC0 t S m p d1 at1 nm its b) 82 (130 * S + m) = nm := by
  unfold mC0
  rw [gI_nc (show 82 ≠ 89 by decide), gI_nc (show 82 ≠ 89 by decide), gI_nc (show 82 ≠ 88 by decide), gI_nc (show 82 ≠ 87 by decide), gI_nc (show 82 ≠ 86 by decide), gI_nc (show 82 ≠ 85 by decide), gI_nc (show 82 ≠ 84 by decide), gI_nc (show 82 ≠ 83 by decide), gI_eq]
theorem m0_85v {t : ST} {S m p d1 at1 nm its b : Int} : gI (mC0 t S m p d1 at1 nm its b) 85 (130 * S + m) = (-1) := by
  unfold mC0
  rw [gI_nc (show 85 ≠ 89 by decide), gI_nc (show 85 ≠ 89 by decide), gI_nc (show 85 ≠ 88 by decide), gI_nc (show 85 ≠ 87 by decide), gI_nc (show 85 ≠ 86 by decide), gI_eq]
theorem m0_86v {t : ST} {S m p d1 at1 nm its b : Int} : gI (mC0 t S m p d1 at1 nm its b) 86 (130 * S + m) = (-1) := by
  unfold mC0
  rw [gI_nc (show 86 ≠ 89 by decide), gI_nc (show 86 ≠ 89 by decide), gI_nc (show 86 ≠ 88 by decide), gI_nc (show 86 ≠ 87 by decide), gI_eq]
theorem m0_87v {t : ST} {S m p d1 at1 nm its b : Int} : gI (mC0 t S m p d1 at1 nm its b) 87 (130 * S + m) = (-1) := by
  unfold mC0
  rw [gI_nc (show 87 ≠ 89 by decide), gI_nc (show 87 ≠ 89 by decide), gI_nc (show 87 ≠ 88 by decide), gI_eq]
theorem m0_88v {t : ST} {S m p d1 at1 nm its b : Int} : gI (mC0 t S m p d1 at1 nm its b) 88 (130 * S + m) = b := by
  unfold mC0
  rw [gI_nc (show 88 ≠ 89 by decide), gI_nc (show 88 ≠ 89 by decide), gI_eq]
theorem c0_37 {c : Nat} {s : ST} {m d pl : Int} (hc : c = 2 ∨ c = 18) (m0 : 0 ≤ m) : UP (gI s 37) (gI (cNt s m d pl (s.1 46 (d - 1).toNat)) 37) m := by
  intro j h0 h1
  unfold cNt
  rw [gI_nc (show 37 ≠ 34 by decide), gI_nc (show 37 ≠ 46 by decide), gI_nc (show 37 ≠ 38 by decide), gI_nc (show 37 ≠ 41 by decide), gI_nc (show 37 ≠ 40 by decide), gI_nc (show 37 ≠ 39 by decide), gI_nc (show 37 ≠ 38 by decide), gI_ni h0 (by omega) h1, gI_nc (show 37 ≠ 36 by decide)]
theorem c0_38 {c : Nat} {s : ST} {m d pl : Int} (hc : c = 2 ∨ c = 18) (m0 : 0 ≤ m) : UP (gI s 38) (gI (cNt s m d pl (s.1 46 (d - 1).toNat)) 38) m := by
  intro j h0 h1
  unfold cNt
  rw [gI_nc (show 38 ≠ 34 by decide), gI_nc (show 38 ≠ 46 by decide), gI_ni h0 (by omega) h1, gI_nc (show 38 ≠ 41 by decide), gI_nc (show 38 ≠ 40 by decide), gI_nc (show 38 ≠ 39 by decide), gI_ni h0 (by omega) h1, gI_nc (show 38 ≠ 37 by decide), gI_nc (show 38 ≠ 36 by decide)]
theorem c0_39 {c : Nat} {s : ST} {m d pl : Int} (hc : c = 2 ∨ c = 18) (m0 : 0 ≤ m) : UP (gI s 39) (gI (cNt s m d pl (s.1 46 (d - 1).toNat)) 39) m := by
  intro j h0 h1
  unfold cNt
  rw [gI_nc (show 39 ≠ 34 by decide), gI_nc (show 39 ≠ 46 by decide), gI_nc (show 39 ≠ 38 by decide), gI_nc (show 39 ≠ 41 by decide), gI_nc (show 39 ≠ 40 by decide), gI_ni h0 (by omega) h1, gI_nc (show 39 ≠ 38 by decide), gI_nc (show 39 ≠ 37 by decide), gI_nc (show 39 ≠ 36 by decide)]
theorem c0_40 {c : Nat} {s : ST} {m d pl : Int} (hc : c = 2 ∨ c = 18) (m0 : 0 ≤ m) : UP (gI s 40) (gI (cNt s m d pl (s.1 46 (d - 1).toNat)) 40) m := by
  intro j h0 h1
  unfold cNt
  rw [gI_nc (show 40 ≠ 34 by decide), gI_nc (show 40 ≠ 46 by decide), gI_nc (show 40 ≠ 38 by decide), gI_nc (show 40 ≠ 41 by decide), gI_ni h0 (by omega) h1, gI_nc (show 40 ≠ 39 by decide), gI_nc (show 40 ≠ 38 by decide), gI_nc (show 40 ≠ 37 by decide), gI_nc (show 40 ≠ 36 by decide)]
theorem c0_41 {c : Nat} {s : ST} {m d pl : Int} (hc : c = 2 ∨ c = 18) (m0 : 0 ≤ m) : UP (gI s 41) (gI (cNt s m d pl (s.1 46 (d - 1).toNat)) 41) m := by
  intro j h0 h1
  unfold cNt
  rw [gI_nc (show 41 ≠ 34 by decide), gI_nc (show 41 ≠ 46 by decide), gI_nc (show 41 ≠ 38 by decide), gI_ni h0 (by omega) h1, gI_nc (show 41 ≠ 40 by decide), gI_nc (show 41 ≠ 39 by decide), gI_nc (show 41 ≠ 38 by decide), gI_nc (show 41 ≠ 37 by decide), gI_nc (show 41 ≠ 36 by decide)]
theorem c0_37v {c : Nat} {s : ST} {m d pl : Int} (hc : c = 2 ∨ c = 18) : gI (cNt s m d pl (s.1 46 (d - 1).toNat)) 37 m = -1 := by
  unfold cNt
  rw [gI_nc (show 37 ≠ 34 by decide), gI_nc (show 37 ≠ 46 by decide), gI_nc (show 37 ≠ 38 by decide), gI_nc (show 37 ≠ 41 by decide), gI_nc (show 37 ≠ 40 by decide), gI_nc (show 37 ≠ 39 by decide), gI_nc (show 37 ≠ 38 by decide), gI_eq]
theorem c0_38v {c : Nat} {s : ST} {m d pl : Int} (hc : c = 2 ∨ c = 18) : gI (cNt s m d pl (s.1 46 (d - 1).toNat)) 38 m = s.1 46 (d - 1).toNat := by
  unfold cNt
  rw [gI_nc (show 38 ≠ 34 by decide), gI_nc (show 38 ≠ 46 by decide), gI_eq]
theorem c0_39v {c : Nat} {s : ST} {m d pl : Int} (hc : c = 2 ∨ c = 18) : gI (cNt s m d pl (s.1 46 (d - 1).toNat)) 39 m = -1 := by
  unfold cNt
  rw [gI_nc (show 39 ≠ 34 by decide), gI_nc (show 39 ≠ 46 by decide), gI_nc (show 39 ≠ 38 by decide), gI_nc (show 39 ≠ 41 by decide), gI_nc (show 39 ≠ 40 by decide), gI_eq]
theorem c0_40v {c : Nat} {s : ST} {m d pl : Int} (hc : c = 2 ∨ c = 18) : gI (cNt s m d pl (s.1 46 (d - 1).toNat)) 40 m = -1 := by
  unfold cNt
  rw [gI_nc (show 40 ≠ 34 by decide), gI_nc (show 40 ≠ 46 by decide), gI_nc (show 40 ≠ 38 by decide), gI_nc (show 40 ≠ 41 by decide), gI_eq]
theorem c0_41v {c : Nat} {s : ST} {m d pl : Int} (hc : c = 2 ∨ c = 18) : gI (cNt s m d pl (s.1 46 (d - 1).toNat)) 41 m = -1 := by
  unfold cNt
  rw [gI_nc (show 41 ≠ 34 by decide), gI_nc (show 41 ≠ 46 by decide), gI_nc (show 41 ≠ 38 by decide), gI_eq]
theorem c0_46 {c : Nat} {s : ST} {m d pl : Int} (hc : c = 2 ∨ c = 18) (d0 : 1 ≤ d) : UP (gI s 46) (gI (cNt s m d pl (s.1 46 (d - 1).toNat)) 46) (d - 1) := by
  intro j h0 h1
  unfold cNt
  rw [gI_nc (show 46 ≠ 34 by decide), gI_ni h0 (by omega) h1, gI_nc (show 46 ≠ 38 by decide), gI_nc (show 46 ≠ 41 by decide), gI_nc (show 46 ≠ 40 by decide), gI_nc (show 46 ≠ 39 by decide), gI_nc (show 46 ≠ 38 by decide), gI_nc (show 46 ≠ 37 by decide), gI_nc (show 46 ≠ 36 by decide)]
theorem c0_46v {c : Nat} {s : ST} {m d pl : Int} (hc : c = 2 ∨ c = 18) : gI (cNt s m d pl (s.1 46 (d - 1).toNat)) 46 (d - 1) = m := by
  unfold cNt
  rw [gI_nc (show 46 ≠ 34 by decide), gI_eq]
theorem c0_44 {c : Nat} {s : ST} {m d pl : Int} (hc : c = 2 ∨ c = 18) : ∀ j, gI (cNt s m d pl (s.1 46 (d - 1).toNat)) 44 j = gI s 44 j := by
  intro j
  unfold cNt
  rw [gI_nc (show 44 ≠ 34 by decide), gI_nc (show 44 ≠ 46 by decide), gI_nc (show 44 ≠ 38 by decide), gI_nc (show 44 ≠ 41 by decide), gI_nc (show 44 ≠ 40 by decide), gI_nc (show 44 ≠ 39 by decide), gI_nc (show 44 ≠ 38 by decide), gI_nc (show 44 ≠ 37 by decide), gI_nc (show 44 ≠ 36 by decide)]
theorem c0_45 {c : Nat} {s : ST} {m d pl : Int} (hc : c = 2 ∨ c = 18) : ∀ j, gI (cNt s m d pl (s.1 46 (d - 1).toNat)) 45 j = gI s 45 j := by
  intro j
  unfold cNt
  rw [gI_nc (show 45 ≠ 34 by decide), gI_nc (show 45 ≠ 46 by decide), gI_nc (show 45 ≠ 38 by decide), gI_nc (show 45 ≠ 41 by decide), gI_nc (show 45 ≠ 40 by decide), gI_nc (show 45 ≠ 39 by decide), gI_nc (show 45 ≠ 38 by decide), gI_nc (show 45 ≠ 37 by decide), gI_nc (show 45 ≠ 36 by decide)]
theorem c0_47 {c : Nat} {s : ST} {m d pl : Int} (hc : c = 2 ∨ c = 18) : ∀ j, gI (cNt s m d pl (s.1 46 (d - 1).toNat)) 47 j = gI s 47 j := by
  intro j
  unfold cNt
  rw [gI_nc (show 47 ≠ 34 by decide), gI_nc (show 47 ≠ 46 by decide), gI_nc (show 47 ≠ 38 by decide), gI_nc (show 47 ≠ 41 by decide), gI_nc (show 47 ≠ 40 by decide), gI_nc (show 47 ≠ 39 by decide), gI_nc (show 47 ≠ 38 by decide), gI_nc (show 47 ≠ 37 by decide), gI_nc (show 47 ≠ 36 by decide)]
theorem c0_q {c : Nat} {s : ST} {m d pl : Int} (hc : c = 2 ∨ c = 18) {q : Nat} (h2 : q ≤ 10) (j : Int) : gI (cNt s m d pl (s.1 46 (d - 1).toNat)) (c + q) j = gI s (c + q) j := by
  unfold cNt
  rw [gI_nc (show (c + q) ≠ 34 by omega), gI_nc (show (c + q) ≠ 46 by omega), gI_nc (show (c + q) ≠ 38 by omega), gI_nc (show (c + q) ≠ 41 by omega), gI_nc (show (c + q) ≠ 40 by omega), gI_nc (show (c + q) ≠ 39 by omega), gI_nc (show (c + q) ≠ 38 by omega), gI_nc (show (c + q) ≠ 37 by omega), gI_nc (show (c + q) ≠ 36 by omega)]
theorem c0_c0 {c : Nat} {s : ST} {m d pl : Int} (hc : c = 2 ∨ c = 18) : gI (cNt s m d pl (s.1 46 (d - 1).toNat)) c 0 = gI s c 0 := by
  show ((cNt s m d pl (s.1 46 (d - 1).toNat))).1 c 0 = s.1 c 0
  unfold cNt
  rw [sI_nc (p := c) (show c ≠ 34 by omega), sI_nc (p := c) (show c ≠ 46 by omega), sI_nc (p := c) (show c ≠ 38 by omega), sI_nc (p := c) (show c ≠ 41 by omega), sI_nc (p := c) (show c ≠ 40 by omega), sI_nc (p := c) (show c ≠ 39 by omega), sI_nc (p := c) (show c ≠ 38 by omega), sI_nc (p := c) (show c ≠ 37 by omega), sI_nc (p := c) (show c ≠ 36 by omega)]
theorem c0_c1 {c : Nat} {s : ST} {m d pl : Int} (hc : c = 2 ∨ c = 18) : gI (cNt s m d pl (s.1 46 (d - 1).toNat)) c 1 = gI s c 1 := by
  show ((cNt s m d pl (s.1 46 (d - 1).toNat))).1 c 1 = s.1 c 1
  unfold cNt
  rw [sI_nc (p := c) (show c ≠ 34 by omega), sI_nc (p := c) (show c ≠ 46 by omega), sI_nc (p := c) (show c ≠ 38 by omega), sI_nc (p := c) (show c ≠ 41 by omega), sI_nc (p := c) (show c ≠ 40 by omega), sI_nc (p := c) (show c ≠ 39 by omega), sI_nc (p := c) (show c ≠ 38 by omega), sI_nc (p := c) (show c ≠ 37 by omega), sI_nc (p := c) (show c ≠ 36 by omega)]
theorem c0_d3 {c : Nat} {s : ST} {m d pl : Int} (hc : c = 2 ∨ c = 18) : gI (cNt s m d pl (s.1 46 (d - 1).toNat)) c 3 = gI s c 3 := by
  show ((cNt s m d pl (s.1 46 (d - 1).toNat))).1 c 3 = s.1 c 3
  unfold cNt
  rw [sI_nc (p := c) (show c ≠ 34 by omega), sI_nc (p := c) (show c ≠ 46 by omega), sI_nc (p := c) (show c ≠ 38 by omega), sI_nc (p := c) (show c ≠ 41 by omega), sI_nc (p := c) (show c ≠ 40 by omega), sI_nc (p := c) (show c ≠ 39 by omega), sI_nc (p := c) (show c ≠ 38 by omega), sI_nc (p := c) (show c ≠ 37 by omega), sI_nc (p := c) (show c ≠ 36 by omega)]
theorem c0_d4 {c : Nat} {s : ST} {m d pl : Int} (hc : c = 2 ∨ c = 18) : gI (cNt s m d pl (s.1 46 (d - 1).toNat)) c 4 = gI s c 4 := by
  show ((cNt s m d pl (s.1 46 (d - 1).toNat))).1 c 4 = s.1 c 4
  unfold cNt
  rw [sI_nc (p := c) (show c ≠ 34 by omega), sI_nc (p := c) (show c ≠ 46 by omega), sI_nc (p := c) (show c ≠ 38 by omega), sI_nc (p := c) (show c ≠ 41 by omega), sI_nc (p := c) (show c ≠ 40 by omega), sI_nc (p := c) (show c ≠ 39 by omega), sI_nc (p := c) (show c ≠ 38 by omega), sI_nc (p := c) (show c ≠ 37 by omega), sI_nc (p := c) (show c ≠ 36 by omega)]
theorem c0_36 {c : Nat} {s : ST} {m d pl : Int} (hc : c = 2 ∨ c = 18) : gI (cNt s m d pl (s.1 46 (d - 1).toNat)) 36 0 = m + 1 := by
  show ((cNt s m d pl (s.1 46 (d - 1).toNat))).1 36 0 = m + 1
  unfold cNt
  rw [sI_nc (p := 36) (show 36 ≠ 34 by decide), sI_nc (p := 36) (show 36 ≠ 46 by decide), sI_nc (p := 36) (show 36 ≠ 38 by decide), sI_nc (p := 36) (show 36 ≠ 41 by decide), sI_nc (p := 36) (show 36 ≠ 40 by decide), sI_nc (p := 36) (show 36 ≠ 39 by decide), sI_nc (p := 36) (show 36 ≠ 38 by decide), sI_nc (p := 36) (show 36 ≠ 37 by decide), sI_eq]
theorem c0_o7 {c : Nat} {s : ST} {m d pl : Int} (hc : c = 2 ∨ c = 18) : ((cNt s m d pl (s.1 46 (d - 1).toNat))).1 34 7 = s.1 34 7 := by
  unfold cNt
  rw [sI_ne (p := 34) (q := 7) (by omega), sI_nc (p := 34) (show 34 ≠ 46 by decide), sI_nc (p := 34) (show 34 ≠ 38 by decide), sI_nc (p := 34) (show 34 ≠ 41 by decide), sI_nc (p := 34) (show 34 ≠ 40 by decide), sI_nc (p := 34) (show 34 ≠ 39 by decide), sI_nc (p := 34) (show 34 ≠ 38 by decide), sI_nc (p := 34) (show 34 ≠ 37 by decide), sI_nc (p := 34) (show 34 ≠ 36 by decide)]
theorem RR.crt {c : Nat} {S d pc n m b l f p d1 at1 nm its pl : Int} {B : Int → Int} {s t : ST} (hc : c = 2 ∨ c = 18) (S0 : 0 ≤ S) (h : RR c S d pc B s t) (hd : 1 ≤ d) (hb : b = B (d - 1)) (hm : m = gI t 73 S) (hn : n = gI t 75 S) (hl : l = gI t 91 b) (hf : f = gI t 90 b) (h6 : its = 6) (hnm : nm = -1) (hpp : p = pc) : RR c S d pc B (cNt s m d pl (s.1 46 (d - 1).toNat)) (mCl (mC0 t S m p d1 at1 nm its b) S m at1 b f l) := by
  have hK := h
  obtain ⟨k1, k2, k3, k4, k5, k6, k7, k8⟩ := hK
  have hB := k6 (d - 1) (by omega) (by omega)
  rw [← hb] at hB
  have b0 : 0 ≤ b := by have := hB.1.1; omega
  have hk4 := k4 b hB.1
  have hk1 := k1.1
  have n0 : 0 ≤ n := by have := k1.2.2.2.1; omega
  have m0 : 0 ≤ m := by have := k1.2.2.2.2.2.1; omega
  have hlt : l < 130 * S + m := by rcases hk4 with z | z; (omega); (have := z.1.2; omega)
  have hfl : ¬ f = -1 → 0 ≤ l := fun z => by rcases hk4 with y | y; (omega); (have := y.1.1; omega)
  have hlf : f = -1 → l = -1 := fun z => by rcases hk4 with y | y; (omega); (exact absurd (hf.symm.trans z) y.2.2.2)
  refine RR.item S0 h hd hb hm hn hl ?_ ?_ ?_ ?_ ?_ ?_ ?_ ?_ ?_ ?_ ?_ ?_ ?_ ?_ ?_ ?_ ?_ ?_ ?_ ?_ ?_ ?_ ?_ ?_ ?_ ?_ ?_ ?_ ?_ ?_ ?_ ?_ ?_ ?_ ?_ ?_ ?_ ?_ ?_ ?_ ?_ ?_ ?_ ?_ ?_ ?_ ?_
  · exact (by rw [mCl_o (q := 73) (by decide) (by decide) (by decide) (by decide)]; exact m0_73v)
  · exact (by rw [mCl_o (q := 74) (by decide) (by decide) (by decide) (by decide), m0_o (by decide) (by decide) (by decide) (by decide) (by decide) (by decide) (by decide) (by decide) (by decide) (by decide) (by decide) (by decide) (by decide) (by decide)])
  · exact (by rw [mCl_o (q := 76) (by decide) (by decide) (by decide) (by decide), m0_o (by decide) (by decide) (by decide) (by decide) (by decide) (by decide) (by decide) (by decide) (by decide) (by decide) (by decide) (by decide) (by decide) (by decide)])
  · exact (by rw [mCl_o (q := 77) (by decide) (by decide) (by decide) (by decide)]; exact m0_77 S0 m0)
  · exact (by rw [mCl_o (q := 78) (by decide) (by decide) (by decide) (by decide)]; exact m0_78 S0 m0)
  · exact (by rw [mCl_o (q := 79) (by decide) (by decide) (by decide) (by decide)]; exact m0_79 S0 m0)
  · exact (by rw [mCl_o (q := 80) (by decide) (by decide) (by decide) (by decide)]; exact m0_80 S0 m0)
  · exact (by rw [mCl_o (q := 81) (by decide) (by decide) (by decide) (by decide)]; exact m0_81 S0 m0)
  · exact (by rw [mCl_o (q := 82) (by decide) (by decide) (by decide) (by decide)]; exact m0_82 S0 m0)
  · exact (by rw [mCl_o (q := 84) (by decide) (by decide) (by decide) (by decide)]; exact m0_84 S0 m0)
  · exact (by rw [mCl_o (q := 85) (by decide) (by decide) (by decide) (by decide)]; exact m0_85 S0 m0)
  · exact (by rw [mCl_o (q := 86) (by decide) (by decide) (by decide) (by decide)]; exact m0_86 S0 m0)
  · exact (by rw [mCl_o (q := 88) (by decide) (by decide) (by decide) (by decide)]; exact m0_88 S0 m0)
  · exact (by rw [mCl_o (q := 85) (by decide) (by decide) (by decide) (by decide)]; exact m0_85v)
  · exact (by rw [mCl_o (q := 86) (by decide) (by decide) (by decide) (by decide)]; exact m0_86v)
  · exact (by rw [mCl_o (q := 88) (by decide) (by decide) (by decide) (by decide)]; exact m0_88v)
  · exact (by rw [mCl_87 (by omega) hfl (by omega)]; exact m0_87v)
  · exact (fun j h0 h1 h2 => by rw [mCl_87 h0 hfl h2]; exact m0_87 S0 m0 j h0 h1)
  · exact (fun h0 => mCl_87v (fun z => h0 (hlf z)))
  · exact (fun j h0 h1 => by rw [mCl_90 h0 b0 h1, m0_o (by decide) (by decide) (by decide) (by decide) (by decide) (by decide) (by decide) (by decide) (by decide) (by decide) (by decide) (by decide) (by decide) (by decide)])
  · exact (by rw [← hf]; exact mCl_90v (by rw [m0_o (by decide) (by decide) (by decide) (by decide) (by decide) (by decide) (by decide) (by decide) (by decide) (by decide) (by decide) (by decide) (by decide) (by decide)]; exact hf.symm))
  · exact (fun j h0 h1 => by rw [mCl_91 h0 b0 h1, m0_o (by decide) (by decide) (by decide) (by decide) (by decide) (by decide) (by decide) (by decide) (by decide) (by decide) (by decide) (by decide) (by decide) (by decide)])
  · exact mCl_91v
  · exact (fun j => by rw [mCl_o (q := 92) (by decide) (by decide) (by decide) (by decide), m0_o (by decide) (by decide) (by decide) (by decide) (by decide) (by decide) (by decide) (by decide) (by decide) (by decide) (by decide) (by decide) (by decide) (by decide)])
  · exact (fun j => by rw [mCl_o (q := 94) (by decide) (by decide) (by decide) (by decide), m0_o (by decide) (by decide) (by decide) (by decide) (by decide) (by decide) (by decide) (by decide) (by decide) (by decide) (by decide) (by decide) (by decide) (by decide)])
  · exact (Or.inl ⟨(by rw [mCl_o (q := 75) (by decide) (by decide) (by decide) (by decide), m0_o (by decide) (by decide) (by decide) (by decide) (by decide) (by decide) (by decide) (by decide) (by decide) (by decide) (by decide) (by decide) (by decide) (by decide)]; exact hn.symm), (fun j => by rw [mCl_o (q := 93) (by decide) (by decide) (by decide) (by decide), m0_o (by decide) (by decide) (by decide) (by decide) (by decide) (by decide) (by decide) (by decide) (by decide) (by decide) (by decide) (by decide) (by decide) (by decide)]), (by rw [mCl_o (q := 78) (by decide) (by decide) (by decide) (by decide)]; exact m0_78v), (by rw [mCl_o (q := 77) (by decide) (by decide) (by decide) (by decide), m0_77v]; exact h6), (by rw [c0_41v hc, mCl_o (q := 82) (by decide) (by decide) (by decide) (by decide), m0_82v]; exact hnm.symm), (fun q j y1 y2 => c0_q hc (by omega) j)⟩)
  · exact (by rw [c0_c0 hc, mCl_o (q := 75) (by decide) (by decide) (by decide) (by decide), m0_o (by decide) (by decide) (by decide) (by decide) (by decide) (by decide) (by decide) (by decide) (by decide) (by decide) (by decide) (by decide) (by decide) (by decide)]; exact hk1)
  · exact (c0_c1 hc)
  · exact (c0_36 hc)
  · exact (c0_37 hc m0)
  · exact (by rw [c0_37v hc, mCl_o (q := 78) (by decide) (by decide) (by decide) (by decide), m0_78v])
  · exact (c0_38 hc m0)
  · exact (c0_38v hc)
  · exact (c0_39 hc m0)
  · exact (c0_39v hc)
  · exact (c0_40 hc m0)
  · exact (c0_40v hc)
  · exact (c0_41 hc m0)
  · exact (c0_44 hc)
  · exact (c0_45 hc)
  · exact (c0_46 hc hd)
  · exact (c0_46v hc)
  · exact (c0_47 hc)
  · exact (c0_o7 hc)
  · exact (by rw [mCl_o (q := 79) (by decide) (by decide) (by decide) (by decide), m0_79v]; exact hpp)
  · exact (c0_d3 hc)
  · exact (c0_d4 hc)

