/-! THE REFERENCE LAYS THE ORDERS -/
def stS : Nat → Nat → Nat → Nat
  | 0, s, _ => s
  | n + 1, s, l => stS n (s ||| 2 ^ (l % 5)) (l / 5)
def pcL : List Nat := [194, 198, 214, 222, 238, 242, 294, 298, 334, 346, 358, 366, 414, 422, 434, 446, 482, 486, 538, 542, 558, 566, 582, 586, 694, 698, 714, 722, 738, 742, 894, 898, 954, 970, 978, 990, 1014, 1022, 1054, 1070, 1102, 1110, 1138, 1142, 1178, 1190, 1202, 1210, 1294, 1298, 1334, 1346, 1358, 1366, 1394, 1398, 1454, 1470, 1478, 1490, 1634, 1646, 1654, 1670, 1726, 1730, 1758, 1766, 1778, 1790, 1826, 1830, 1914, 1922, 1934, 1946, 1982, 1986, 2014, 2022, 2054, 2070, 2102, 2110, 2134, 2146, 2154, 2170, 2226, 2230, 2382, 2386, 2402, 2410, 2426, 2430, 2538, 2542, 2558, 2566, 2582, 2586, 2638, 2642, 2678, 2690, 2702, 2710, 2758, 2766, 2778, 2790, 2826, 2830, 2882, 2886, 2902, 2910, 2926, 2930]
def pcN (o : Nat) : Nat := pcL.getD o 0
set_option maxRecDepth 100000 in
theorem pc_1 : ∀ o : Nat, o < 120 → stS 5 0 (pcN o) = 31 ∧ pcN o < 3125 ∧ ∀ t : Nat, t < 5 → ((pcN o / 5 ^ t % 5 : Nat) : Int) = dT (5 * (o : Int) + (4 - (t : Int))) := by decide +kernel
set_option maxRecDepth 100000 in
theorem pc_2 : (List.range 3125).all (fun c => stS 5 0 c != 31 || pcL.contains c) = true := by decide +kernel
set_option maxRecDepth 100000 in
theorem pc_3 : ∀ i : Nat, i < 119 → pcN i < pcN (i + 1) := by decide +kernel
theorem pc_m : ∀ (n i : Nat), i + n + 1 < 120 → pcN i < pcN (i + n + 1)
  | 0, i, h => pc_3 i (by omega)
  | n + 1, i, h => Nat.lt_trans (pc_m n i (by omega)) (by have := pc_3 (i + n + 1) (by omega); exact this)
theorem pc_lt {i j : Nat} (h : i < j) (hj : j < 120) : pcN i < pcN j := by
  have := pc_m (j - i - 1) i (by omega)
  rw [show i + (j - i - 1) + 1 = j by omega] at this
  exact this
theorem pc_ex {c : Nat} (hc : c < 3125) (h : stS 5 0 c = 31) : ∃ o, o < 120 ∧ pcN o = c := by
  have h1 := List.all_eq_true.mp pc_2 c (List.mem_range.mpr hc)
  rw [h] at h1
  have h2 : pcL.contains c = true := by simpa using h1
  have h3 : c ∈ pcL := by simpa using h2
  obtain ⟨o, ho, e⟩ := List.getElem_of_mem h3
  refine ⟨o, ho, ?_⟩
  unfold pcN
  rw [List.getD_eq_getElem?_getD, List.getElem?_eq_getElem ho]
  exact e
