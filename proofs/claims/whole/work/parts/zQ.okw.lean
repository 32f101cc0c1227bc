/-! THE WORDS OF THROWS, by their places -/
def zipW : List Cond → List Nat → Bool
  | [], _ => true
  | w :: ws, i :: is => decide (lw_tb2[i]? = some w) && (goodWord w || pSd w) && zipW ws is
  | _, _ => false
theorem zipW_ok : ∀ (L : List Cond) (is : List Nat), zipW L is = true → ∀ w ∈ L, w ∈ GW ∨ w ∈ SW := by
  intro L
  induction L with
  | nil => intro is _ w hw; cases hw
  | cons w0 ws ih =>
    intro is h w hw
    cases is with
    | nil => cases h
    | cons i is =>
      simp only [zipW, Bool.and_eq_true, Bool.or_eq_true, decide_eq_true_eq] at h
      obtain ⟨⟨h1, h2⟩, h3⟩ := h
      rcases List.mem_cons.mp hw with rfl | hw
      · rcases h2 with h2 | h2
        · exact Or.inl (gw_at h1 h2)
        · exact Or.inr (sw_at h1 h2)
      · exact ih is h3 w hw
theorem zw_0 : zipW (pAtS "FavourTown" 110 0) [110, 965, 974, 979, 982, 984, 966, 967, 125, 126, 968, 973, 980, 1000, 955, 1001, 957, 1002, 959, 969, 971, 961, 996, 997, 999, 961, 987, 988, 989, 990, 947, 990, 991, 992, 993, 949, 993, 994, 995, 996, 951, 986, 944, 945, 952, 953, 954, 956, 958, 960, 964, 963, 962] = true := by decide +kernel
theorem zw_1 : zipW (pAtS "FavourTown" 143 1) [110, 965, 974, 979, 982, 984, 966, 967, 125, 126, 968, 973, 980, 1000, 955, 1001, 957, 1002, 959, 969, 971, 961, 996, 997, 999, 961, 1106, 1107, 1108, 990, 947, 990, 991, 992, 993, 949, 993, 994, 995, 996, 951, 1105, 1096, 1097, 1098, 976, 1099, 1100, 1101, 1102, 964, 963, 1103] = true := by decide +kernel
theorem zw_2 : zipW (pAtS "FavourTown" 117 2) [110, 965, 974, 979, 982, 984, 966, 967, 125, 126, 968, 973, 980, 1000, 955, 1001, 957, 1002, 959, 969, 971, 961, 996, 997, 999, 961, 1022, 1023, 1024, 990, 947, 990, 991, 992, 993, 949, 993, 994, 995, 996, 951, 1021, 1012, 1013, 1014, 977, 1015, 1016, 1017, 1018, 964, 963, 1019] = true := by decide +kernel
theorem zw_3 : zipW (pAtS "FavourTown" 226 3) [110, 965, 974, 979, 982, 984, 966, 967, 125, 126, 968, 973, 980, 1000, 955, 1001, 957, 1002, 959, 969, 971, 961, 996, 997, 999, 961, 1184, 1185, 1186, 990, 947, 990, 991, 992, 993, 949, 993, 994, 995, 996, 951, 1183, 1174, 1175, 1176, 978, 1177, 1178, 1179, 1180, 964, 963, 1181] = true := by decide +kernel
theorem okW_all : okW pThr := by
  intro q hq
  simp only [pThr, List.mem_cons, List.not_mem_nil, or_false] at hq
  rcases hq with rfl | rfl | rfl | rfl
  · exact ⟨by decide, by decide +kernel, zipW_ok _ _ zw_0, gw_at (i := 113) (by decide +kernel) rfl⟩
  · exact ⟨by decide, by decide +kernel, zipW_ok _ _ zw_1, gw_at (i := 116) (by decide +kernel) rfl⟩
  · exact ⟨by decide, by decide +kernel, zipW_ok _ _ zw_2, gw_at (i := 114) (by decide +kernel) rfl⟩
  · exact ⟨by decide, by decide +kernel, zipW_ok _ _ zw_3, gw_at (i := 117) (w := Cond.initialized (exN 3)) (by decide +kernel) rfl⟩
