theorem j_ne {x k : Int32} {n : Int} (hk : k.toInt = n) (c : ¬ x = k) : x.toInt ≠ n := fun h => c (Int32.toInt_inj.mp (h.trans hk.symm))
theorem j_out0_6 {x : Int32} (c0 : ¬ x = 0) (c1 : ¬ x = 1) (c2 : ¬ x = 2) (c3 : ¬ x = 3) (c4 : ¬ x = 4) (c5 : ¬ x = 5) (c6 : ¬ x = 6) : x.toInt < 0 ∨ 6 < x.toInt := by
  have h0 := j_ne (k := 0) (n := 0) (by decide) c0
  have h1 := j_ne (k := 1) (n := 1) (by decide) c1
  have h2 := j_ne (k := 2) (n := 2) (by decide) c2
  have h3 := j_ne (k := 3) (n := 3) (by decide) c3
  have h4 := j_ne (k := 4) (n := 4) (by decide) c4
  have h5 := j_ne (k := 5) (n := 5) (by decide) c5
  have h6 := j_ne (k := 6) (n := 6) (by decide) c6
  omega
theorem j_out0_7 {x : Int32} (c0 : ¬ x = 0) (c1 : ¬ x = 1) (c2 : ¬ x = 2) (c3 : ¬ x = 3) (c4 : ¬ x = 4) (c5 : ¬ x = 5) (c6 : ¬ x = 6) (c7 : ¬ x = 7) : x.toInt < 0 ∨ 7 < x.toInt := by
  have h0 := j_ne (k := 0) (n := 0) (by decide) c0
  have h1 := j_ne (k := 1) (n := 1) (by decide) c1
  have h2 := j_ne (k := 2) (n := 2) (by decide) c2
  have h3 := j_ne (k := 3) (n := 3) (by decide) c3
  have h4 := j_ne (k := 4) (n := 4) (by decide) c4
  have h5 := j_ne (k := 5) (n := 5) (by decide) c5
  have h6 := j_ne (k := 6) (n := 6) (by decide) c6
  have h7 := j_ne (k := 7) (n := 7) (by decide) c7
  omega
theorem j_out0_11 {x : Int32} (c0 : ¬ x = 0) (c1 : ¬ x = 1) (c2 : ¬ x = 2) (c3 : ¬ x = 3) (c4 : ¬ x = 4) (c5 : ¬ x = 5) (c6 : ¬ x = 6) (c7 : ¬ x = 7) (c8 : ¬ x = 8) (c9 : ¬ x = 9) (c10 : ¬ x = 10) (c11 : ¬ x = 11) : x.toInt < 0 ∨ 11 < x.toInt := by
  have h0 := j_ne (k := 0) (n := 0) (by decide) c0
  have h1 := j_ne (k := 1) (n := 1) (by decide) c1
  have h2 := j_ne (k := 2) (n := 2) (by decide) c2
  have h3 := j_ne (k := 3) (n := 3) (by decide) c3
  have h4 := j_ne (k := 4) (n := 4) (by decide) c4
  have h5 := j_ne (k := 5) (n := 5) (by decide) c5
  have h6 := j_ne (k := 6) (n := 6) (by decide) c6
  have h7 := j_ne (k := 7) (n := 7) (by decide) c7
  have h8 := j_ne (k := 8) (n := 8) (by decide) c8
  have h9 := j_ne (k := 9) (n := 9) (by decide) c9
  have h10 := j_ne (k := 10) (n := 10) (by decide) c10
  have h11 := j_ne (k := 11) (n := 11) (by decide) c11
  omega

