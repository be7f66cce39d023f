/-! The eight calls, counted out. -/
def kcl (z : Bool) (j v : Nat) (as : List Int32) (hp : List x_E) : Option (Option Value × List x_E) := xgf z 40000 1000 j hp (.ref v :: as.map Value.int)
def kall (z : Bool) : Bool := match kcl z 25 0 kA0 (xh2 z) with
  | some (some (.int 1), h1) => xgB h1 && (match kcl z 315 49 kA0 h1 with
    | some (some (.int 1), h2) => xgB h2 && (match kcl z 25 0 kA1 h2 with
      | some (some (.int 1), h3) => xgB h3 && (match kcl z 315 49 kA1 h3 with
        | some (some (.int 1), h4) => xgB h4 && (match kcl z 25 0 kA2 h4 with
          | some (some (.int 1), h5) => xgB h5 && (match kcl z 315 49 kA2 h5 with
            | some (some (.int 1), h6) => xgB h6 && (match kcl z 27 0 [47] h6 with
              | some (some (.int 1), h7) => xgB h7 && (match kst z 981 kT 26610 [] 1000 317 0 (lv_args 0 [.ref 49, .int 47]) [] h7 0 0 with
                | some (none, hT) => chT hT
                | _ => false)
              | _ => false)
            | _ => false)
          | _ => false)
        | _ => false)
      | _ => false)
    | _ => false)
  | _ => false
theorem kall_run {z : Bool} (h : kall z = true) : kRun z := by
  unfold kall at h
  split at h
  · rename_i h1 e1
    rw [Bool.and_eq_true] at h
    obtain ⟨g1, h⟩ := h
    split at h
    · rename_i h2 e2
      rw [Bool.and_eq_true] at h
      obtain ⟨g2, h⟩ := h
      split at h
      · rename_i h3 e3
        rw [Bool.and_eq_true] at h
        obtain ⟨g3, h⟩ := h
        split at h
        · rename_i h4 e4
          rw [Bool.and_eq_true] at h
          obtain ⟨g4, h⟩ := h
          split at h
          · rename_i h5 e5
            rw [Bool.and_eq_true] at h
            obtain ⟨g5, h⟩ := h
            split at h
            · rename_i h6 e6
              rw [Bool.and_eq_true] at h
              obtain ⟨g6, h⟩ := h
              split at h
              · rename_i h7 e7
                rw [Bool.and_eq_true] at h
                obtain ⟨g7, h⟩ := h
                split at h
                · rename_i hT eT
                  exact ⟨40000, h1, h2, h3, h4, h5, h6, h7, ⟨xgf_xbr e1, xgf_xbr e2, xgf_xbr e3, xgf_xbr e4, xgf_xbr e5, xgf_xbr e6, xgf_xbr e7⟩, ⟨xgB_eq g1, xgB_eq g2, xgB_eq g3, xgB_eq g4, xgB_eq g5, xgB_eq g6, xgB_eq g7⟩, kst_die eT h⟩
                · cases h
              · cases h
            · cases h
          · cases h
        · cases h
      · cases h
    · cases h
  · cases h
