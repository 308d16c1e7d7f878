/-! shelves become like others: both sides answer alike -/
section VG1
variable {G : g_G} {C : f_C} {M : f_M} {ob ob2 : List va_E} {y y2 y3 y4 y5 : Int32} {x : Int64}
theorem v_lkR (M : f_M) (s b : Nat) : f_mvM3 (f_tkM3 (f_liM M s b) (6 * b + 0) 6) (6 * s) 6 = f_mL (f_mI (f_mI (f_mL (f_mI (f_mI (f_mI (f_mI M 9 (upd (M.2.2.2.1 9) s (M.2.2.2.1 9 b))) 10 (upd (M.2.2.2.1 10) s (M.2.2.2.1 10 b))) 13 (f_tkI (M.2.2.2.1 13) (M.2.2.2.1 11) (6 * b + 0) 6)) 14 (f_tkI (M.2.2.2.1 14) (M.2.2.2.1 12) (6 * b + 0) 6)) 4 (f_tkL (M.2.2.2.2 4) (M.2.2.2.2 3) (6 * b + 0) 6)) 11 (f_mvI (M.2.2.2.1 11) (f_tkI (M.2.2.2.1 13) (M.2.2.2.1 11) (6 * b + 0) 6) (6 * s) 6)) 12 (f_mvI (M.2.2.2.1 12) (f_tkI (M.2.2.2.1 14) (M.2.2.2.1 12) (6 * b + 0) 6) (6 * s) 6)) 3 (f_mvL (M.2.2.2.2 3) (f_tkL (M.2.2.2.2 4) (M.2.2.2.2 3) (6 * b + 0) 6) (6 * s) 6) := rfl
theorem v_like01 (hJ : v_J G C M ob) : v_Ok Value.int mX11_like mX12_like [.int 0, .int 1] G C M ob := by
  have hJ0 := hJ
  have hq := hJ.qs
  obtain ⟨F, ja, jb, jg, jc, ji, jt, jp, jr, js, jl, jq⟩ := hJ
  have j0 : v_Js G ob (C.2.1 4) (C.2.1 7) (C.1 13) (C.2.2.2.2.2 7) (M.2.2.2.1 9 1) (M.2.2.2.1 10 1) (M.2.2.2.1 11) (M.2.2.2.1 12) (M.2.2.2.2 3) (6 * 1) := js.2.1
  rcases j0 with ⟨h1, h2, h3, h4⟩ | ⟨h1, h2, h3, ⟨s9, hs9, h4, h5⟩, h6⟩
  · exact v_ok hJ0 (r_X11_like01_miss hq h1) (r_lkM_miss (s := 0) (o := 1) (by omega) (by omega) (by omega) (by rw [h3]; decide)) rfl
  · obtain ⟨f2, hf2, q9⟩ := r_X11_like01 (G := G) (C := C) (tl := g_hm G M ++ ob) hq h1 h2 (fun j hj => (h6 j hj).fo.fo)
    have w1 : v_Js G ob 1 (C.2.1 7) (C.1 13) f2 (upd (M.2.2.2.1 9) 0 (M.2.2.2.1 9 1) 0) (upd (M.2.2.2.1 10) 0 (M.2.2.2.1 10 1) 0) (f_mvI (M.2.2.2.1 11) (f_tkI (M.2.2.2.1 13) (M.2.2.2.1 11) (6 * 1 + 0) 6) (6 * 0) 6) (f_mvI (M.2.2.2.1 12) (f_tkI (M.2.2.2.1 14) (M.2.2.2.1 12) (6 * 1 + 0) 6) (6 * 0) 6) (f_mvL (M.2.2.2.2 3) (f_tkL (M.2.2.2.2 4) (M.2.2.2.2 3) (6 * 1 + 0) 6) (6 * 0) 6) (6 * 0) := Or.inr ⟨by decide, h2, pk_us.trans h3, ⟨s9, hs9, h4, pk_us.trans h5⟩, fun i hi => (h6 i hi).cg (by rw [hf2 i (by omega), if_pos hi]) (v_mtI_in (by omega) (by omega)) (v_mtI_in (by omega) (by omega)) (v_mtL_in (by omega) (by omega))⟩
    have u1 : v_Js G ob (C.2.1 4) (C.2.1 7) (C.1 13) (C.2.2.2.2.2 7) (M.2.2.2.1 9 1) (M.2.2.2.1 10 1) (f_mvI (M.2.2.2.1 11) (f_tkI (M.2.2.2.1 13) (M.2.2.2.1 11) (6 * 1 + 0) 6) (6 * 0) 6) (f_mvI (M.2.2.2.1 12) (f_tkI (M.2.2.2.1 14) (M.2.2.2.1 12) (6 * 1 + 0) 6) (6 * 0) 6) (f_mvL (M.2.2.2.2 3) (f_tkL (M.2.2.2.2 4) (M.2.2.2.2 3) (6 * 1 + 0) 6) (6 * 0) 6) (6 * 1) := v_Js.oth js.2.1 (fun i hi => v_mtI_out (by omega) (by omega)) (fun i hi => v_mtI_out (by omega) (by omega)) (fun i hi => v_mtL_out (by omega) (by omega))
    have u2 : v_Js G ob (C.2.1 5) (C.2.1 8) (C.1 14) (C.2.2.2.2.2 8) (M.2.2.2.1 9 2) (M.2.2.2.1 10 2) (f_mvI (M.2.2.2.1 11) (f_tkI (M.2.2.2.1 13) (M.2.2.2.1 11) (6 * 1 + 0) 6) (6 * 0) 6) (f_mvI (M.2.2.2.1 12) (f_tkI (M.2.2.2.1 14) (M.2.2.2.1 12) (6 * 1 + 0) 6) (6 * 0) 6) (f_mvL (M.2.2.2.2 3) (f_tkL (M.2.2.2.2 4) (M.2.2.2.2 3) (6 * 1 + 0) 6) (6 * 0) 6) (6 * 2) := v_Js.oth js.2.2 (fun i hi => v_mtI_out (by omega) (by omega)) (fun i hi => v_mtI_out (by omega) (by omega)) (fun i hi => v_mtL_out (by omega) (by omega))
    have q8 := r_lkM (G := G) (C := f_uR (f_un (f_ui (f_ui C 3 1) 6 (C.2.1 7)) 12 (C.1 13)) 6 f2) (M := M) (ob := ob) (s := 0) (o := 1) (by omega) (by omega) (by omega) (by rw [h5]; exact nI_pos' (by omega))
    rw [v_lkR] at q8
    refine v_ok (C2 := f_uR (f_un (f_ui (f_ui C 3 1) 6 (C.2.1 7)) 12 (C.1 13)) 6 f2) ?_ q9 q8 h3.symm
    exact ⟨F, ja, jb, jg, jc, ji, jt, jp, jr, ⟨w1, u1, u2⟩, jl, jq⟩
theorem v_like02 (hJ : v_J G C M ob) : v_Ok Value.int mX11_like mX12_like [.int 0, .int 2] G C M ob := by
  have hJ0 := hJ
  have hq := hJ.qs
  obtain ⟨F, ja, jb, jg, jc, ji, jt, jp, jr, js, jl, jq⟩ := hJ
  have j0 : v_Js G ob (C.2.1 5) (C.2.1 8) (C.1 14) (C.2.2.2.2.2 8) (M.2.2.2.1 9 2) (M.2.2.2.1 10 2) (M.2.2.2.1 11) (M.2.2.2.1 12) (M.2.2.2.2 3) (6 * 2) := js.2.2
  rcases j0 with ⟨h1, h2, h3, h4⟩ | ⟨h1, h2, h3, ⟨s9, hs9, h4, h5⟩, h6⟩
  · exact v_ok hJ0 (r_X11_like02_miss hq h1) (r_lkM_miss (s := 0) (o := 2) (by omega) (by omega) (by omega) (by rw [h3]; decide)) rfl
  · obtain ⟨f2, hf2, q9⟩ := r_X11_like02 (G := G) (C := C) (tl := g_hm G M ++ ob) hq h1 h2 (fun j hj => (h6 j hj).fo.fo)
    have w1 : v_Js G ob 1 (C.2.1 8) (C.1 14) f2 (upd (M.2.2.2.1 9) 0 (M.2.2.2.1 9 2) 0) (upd (M.2.2.2.1 10) 0 (M.2.2.2.1 10 2) 0) (f_mvI (M.2.2.2.1 11) (f_tkI (M.2.2.2.1 13) (M.2.2.2.1 11) (6 * 2 + 0) 6) (6 * 0) 6) (f_mvI (M.2.2.2.1 12) (f_tkI (M.2.2.2.1 14) (M.2.2.2.1 12) (6 * 2 + 0) 6) (6 * 0) 6) (f_mvL (M.2.2.2.2 3) (f_tkL (M.2.2.2.2 4) (M.2.2.2.2 3) (6 * 2 + 0) 6) (6 * 0) 6) (6 * 0) := Or.inr ⟨by decide, h2, pk_us.trans h3, ⟨s9, hs9, h4, pk_us.trans h5⟩, fun i hi => (h6 i hi).cg (by rw [hf2 i (by omega), if_pos hi]) (v_mtI_in (by omega) (by omega)) (v_mtI_in (by omega) (by omega)) (v_mtL_in (by omega) (by omega))⟩
    have u1 : v_Js G ob (C.2.1 4) (C.2.1 7) (C.1 13) (C.2.2.2.2.2 7) (M.2.2.2.1 9 1) (M.2.2.2.1 10 1) (f_mvI (M.2.2.2.1 11) (f_tkI (M.2.2.2.1 13) (M.2.2.2.1 11) (6 * 2 + 0) 6) (6 * 0) 6) (f_mvI (M.2.2.2.1 12) (f_tkI (M.2.2.2.1 14) (M.2.2.2.1 12) (6 * 2 + 0) 6) (6 * 0) 6) (f_mvL (M.2.2.2.2 3) (f_tkL (M.2.2.2.2 4) (M.2.2.2.2 3) (6 * 2 + 0) 6) (6 * 0) 6) (6 * 1) := v_Js.oth js.2.1 (fun i hi => v_mtI_out (by omega) (by omega)) (fun i hi => v_mtI_out (by omega) (by omega)) (fun i hi => v_mtL_out (by omega) (by omega))
    have u2 : v_Js G ob (C.2.1 5) (C.2.1 8) (C.1 14) (C.2.2.2.2.2 8) (M.2.2.2.1 9 2) (M.2.2.2.1 10 2) (f_mvI (M.2.2.2.1 11) (f_tkI (M.2.2.2.1 13) (M.2.2.2.1 11) (6 * 2 + 0) 6) (6 * 0) 6) (f_mvI (M.2.2.2.1 12) (f_tkI (M.2.2.2.1 14) (M.2.2.2.1 12) (6 * 2 + 0) 6) (6 * 0) 6) (f_mvL (M.2.2.2.2 3) (f_tkL (M.2.2.2.2 4) (M.2.2.2.2 3) (6 * 2 + 0) 6) (6 * 0) 6) (6 * 2) := v_Js.oth js.2.2 (fun i hi => v_mtI_out (by omega) (by omega)) (fun i hi => v_mtI_out (by omega) (by omega)) (fun i hi => v_mtL_out (by omega) (by omega))
    have q8 := r_lkM (G := G) (C := f_uR (f_un (f_ui (f_ui C 3 1) 6 (C.2.1 8)) 12 (C.1 14)) 6 f2) (M := M) (ob := ob) (s := 0) (o := 2) (by omega) (by omega) (by omega) (by rw [h5]; exact nI_pos' (by omega))
    rw [v_lkR] at q8
    refine v_ok (C2 := f_uR (f_un (f_ui (f_ui C 3 1) 6 (C.2.1 8)) 12 (C.1 14)) 6 f2) ?_ q9 q8 h3.symm
    exact ⟨F, ja, jb, jg, jc, ji, jt, jp, jr, ⟨w1, u1, u2⟩, jl, jq⟩
theorem v_like10 (hJ : v_J G C M ob) : v_Ok Value.int mX11_like mX12_like [.int 1, .int 0] G C M ob := by
  have hJ0 := hJ
  have hq := hJ.qs
  obtain ⟨F, ja, jb, jg, jc, ji, jt, jp, jr, js, jl, jq⟩ := hJ
  have j0 : v_Js G ob (C.2.1 3) (C.2.1 6) (C.1 12) (C.2.2.2.2.2 6) (M.2.2.2.1 9 0) (M.2.2.2.1 10 0) (M.2.2.2.1 11) (M.2.2.2.1 12) (M.2.2.2.2 3) (6 * 0) := js.1
  rcases j0 with ⟨h1, h2, h3, h4⟩ | ⟨h1, h2, h3, ⟨s9, hs9, h4, h5⟩, h6⟩
  · exact v_ok hJ0 (r_X11_like10_miss hq h1) (r_lkM_miss (s := 1) (o := 0) (by omega) (by omega) (by omega) (by rw [h3]; decide)) rfl
  · obtain ⟨f2, hf2, q9⟩ := r_X11_like10 (G := G) (C := C) (tl := g_hm G M ++ ob) hq h1 h2 (fun j hj => (h6 j hj).fo.fo)
    have w1 : v_Js G ob 1 (C.2.1 6) (C.1 12) f2 (upd (M.2.2.2.1 9) 1 (M.2.2.2.1 9 0) 1) (upd (M.2.2.2.1 10) 1 (M.2.2.2.1 10 0) 1) (f_mvI (M.2.2.2.1 11) (f_tkI (M.2.2.2.1 13) (M.2.2.2.1 11) (6 * 0 + 0) 6) (6 * 1) 6) (f_mvI (M.2.2.2.1 12) (f_tkI (M.2.2.2.1 14) (M.2.2.2.1 12) (6 * 0 + 0) 6) (6 * 1) 6) (f_mvL (M.2.2.2.2 3) (f_tkL (M.2.2.2.2 4) (M.2.2.2.2 3) (6 * 0 + 0) 6) (6 * 1) 6) (6 * 1) := Or.inr ⟨by decide, h2, pk_us.trans h3, ⟨s9, hs9, h4, pk_us.trans h5⟩, fun i hi => (h6 i hi).cg (by rw [hf2 i (by omega), if_pos hi]) (v_mtI_in (by omega) (by omega)) (v_mtI_in (by omega) (by omega)) (v_mtL_in (by omega) (by omega))⟩
    have u0 : v_Js G ob (C.2.1 3) (C.2.1 6) (C.1 12) (C.2.2.2.2.2 6) (M.2.2.2.1 9 0) (M.2.2.2.1 10 0) (f_mvI (M.2.2.2.1 11) (f_tkI (M.2.2.2.1 13) (M.2.2.2.1 11) (6 * 0 + 0) 6) (6 * 1) 6) (f_mvI (M.2.2.2.1 12) (f_tkI (M.2.2.2.1 14) (M.2.2.2.1 12) (6 * 0 + 0) 6) (6 * 1) 6) (f_mvL (M.2.2.2.2 3) (f_tkL (M.2.2.2.2 4) (M.2.2.2.2 3) (6 * 0 + 0) 6) (6 * 1) 6) (6 * 0) := v_Js.oth js.1 (fun i hi => v_mtI_out (by omega) (by omega)) (fun i hi => v_mtI_out (by omega) (by omega)) (fun i hi => v_mtL_out (by omega) (by omega))
    have u2 : v_Js G ob (C.2.1 5) (C.2.1 8) (C.1 14) (C.2.2.2.2.2 8) (M.2.2.2.1 9 2) (M.2.2.2.1 10 2) (f_mvI (M.2.2.2.1 11) (f_tkI (M.2.2.2.1 13) (M.2.2.2.1 11) (6 * 0 + 0) 6) (6 * 1) 6) (f_mvI (M.2.2.2.1 12) (f_tkI (M.2.2.2.1 14) (M.2.2.2.1 12) (6 * 0 + 0) 6) (6 * 1) 6) (f_mvL (M.2.2.2.2 3) (f_tkL (M.2.2.2.2 4) (M.2.2.2.2 3) (6 * 0 + 0) 6) (6 * 1) 6) (6 * 2) := v_Js.oth js.2.2 (fun i hi => v_mtI_out (by omega) (by omega)) (fun i hi => v_mtI_out (by omega) (by omega)) (fun i hi => v_mtL_out (by omega) (by omega))
    have q8 := r_lkM (G := G) (C := f_uR (f_un (f_ui (f_ui C 4 1) 7 (C.2.1 6)) 13 (C.1 12)) 7 f2) (M := M) (ob := ob) (s := 1) (o := 0) (by omega) (by omega) (by omega) (by rw [h5]; exact nI_pos' (by omega))
    rw [v_lkR] at q8
    refine v_ok (C2 := f_uR (f_un (f_ui (f_ui C 4 1) 7 (C.2.1 6)) 13 (C.1 12)) 7 f2) ?_ q9 q8 h3.symm
    exact ⟨F, ja, jb, jg, jc, ji, jt, jp, jr, ⟨u0, w1, u2⟩, jl, jq⟩
theorem v_like12 (hJ : v_J G C M ob) : v_Ok Value.int mX11_like mX12_like [.int 1, .int 2] G C M ob := by
  have hJ0 := hJ
  have hq := hJ.qs
  obtain ⟨F, ja, jb, jg, jc, ji, jt, jp, jr, js, jl, jq⟩ := hJ
  have j0 : v_Js G ob (C.2.1 5) (C.2.1 8) (C.1 14) (C.2.2.2.2.2 8) (M.2.2.2.1 9 2) (M.2.2.2.1 10 2) (M.2.2.2.1 11) (M.2.2.2.1 12) (M.2.2.2.2 3) (6 * 2) := js.2.2
  rcases j0 with ⟨h1, h2, h3, h4⟩ | ⟨h1, h2, h3, ⟨s9, hs9, h4, h5⟩, h6⟩
  · exact v_ok hJ0 (r_X11_like12_miss hq h1) (r_lkM_miss (s := 1) (o := 2) (by omega) (by omega) (by omega) (by rw [h3]; decide)) rfl
  · obtain ⟨f2, hf2, q9⟩ := r_X11_like12 (G := G) (C := C) (tl := g_hm G M ++ ob) hq h1 h2 (fun j hj => (h6 j hj).fo.fo)
    have w1 : v_Js G ob 1 (C.2.1 8) (C.1 14) f2 (upd (M.2.2.2.1 9) 1 (M.2.2.2.1 9 2) 1) (upd (M.2.2.2.1 10) 1 (M.2.2.2.1 10 2) 1) (f_mvI (M.2.2.2.1 11) (f_tkI (M.2.2.2.1 13) (M.2.2.2.1 11) (6 * 2 + 0) 6) (6 * 1) 6) (f_mvI (M.2.2.2.1 12) (f_tkI (M.2.2.2.1 14) (M.2.2.2.1 12) (6 * 2 + 0) 6) (6 * 1) 6) (f_mvL (M.2.2.2.2 3) (f_tkL (M.2.2.2.2 4) (M.2.2.2.2 3) (6 * 2 + 0) 6) (6 * 1) 6) (6 * 1) := Or.inr ⟨by decide, h2, pk_us.trans h3, ⟨s9, hs9, h4, pk_us.trans h5⟩, fun i hi => (h6 i hi).cg (by rw [hf2 i (by omega), if_pos hi]) (v_mtI_in (by omega) (by omega)) (v_mtI_in (by omega) (by omega)) (v_mtL_in (by omega) (by omega))⟩
    have u0 : v_Js G ob (C.2.1 3) (C.2.1 6) (C.1 12) (C.2.2.2.2.2 6) (M.2.2.2.1 9 0) (M.2.2.2.1 10 0) (f_mvI (M.2.2.2.1 11) (f_tkI (M.2.2.2.1 13) (M.2.2.2.1 11) (6 * 2 + 0) 6) (6 * 1) 6) (f_mvI (M.2.2.2.1 12) (f_tkI (M.2.2.2.1 14) (M.2.2.2.1 12) (6 * 2 + 0) 6) (6 * 1) 6) (f_mvL (M.2.2.2.2 3) (f_tkL (M.2.2.2.2 4) (M.2.2.2.2 3) (6 * 2 + 0) 6) (6 * 1) 6) (6 * 0) := v_Js.oth js.1 (fun i hi => v_mtI_out (by omega) (by omega)) (fun i hi => v_mtI_out (by omega) (by omega)) (fun i hi => v_mtL_out (by omega) (by omega))
    have u2 : v_Js G ob (C.2.1 5) (C.2.1 8) (C.1 14) (C.2.2.2.2.2 8) (M.2.2.2.1 9 2) (M.2.2.2.1 10 2) (f_mvI (M.2.2.2.1 11) (f_tkI (M.2.2.2.1 13) (M.2.2.2.1 11) (6 * 2 + 0) 6) (6 * 1) 6) (f_mvI (M.2.2.2.1 12) (f_tkI (M.2.2.2.1 14) (M.2.2.2.1 12) (6 * 2 + 0) 6) (6 * 1) 6) (f_mvL (M.2.2.2.2 3) (f_tkL (M.2.2.2.2 4) (M.2.2.2.2 3) (6 * 2 + 0) 6) (6 * 1) 6) (6 * 2) := v_Js.oth js.2.2 (fun i hi => v_mtI_out (by omega) (by omega)) (fun i hi => v_mtI_out (by omega) (by omega)) (fun i hi => v_mtL_out (by omega) (by omega))
    have q8 := r_lkM (G := G) (C := f_uR (f_un (f_ui (f_ui C 4 1) 7 (C.2.1 8)) 13 (C.1 14)) 7 f2) (M := M) (ob := ob) (s := 1) (o := 2) (by omega) (by omega) (by omega) (by rw [h5]; exact nI_pos' (by omega))
    rw [v_lkR] at q8
    refine v_ok (C2 := f_uR (f_un (f_ui (f_ui C 4 1) 7 (C.2.1 8)) 13 (C.1 14)) 7 f2) ?_ q9 q8 h3.symm
    exact ⟨F, ja, jb, jg, jc, ji, jt, jp, jr, ⟨u0, w1, u2⟩, jl, jq⟩
theorem v_like20 (hJ : v_J G C M ob) : v_Ok Value.int mX11_like mX12_like [.int 2, .int 0] G C M ob := by
  have hJ0 := hJ
  have hq := hJ.qs
  obtain ⟨F, ja, jb, jg, jc, ji, jt, jp, jr, js, jl, jq⟩ := hJ
  have j0 : v_Js G ob (C.2.1 3) (C.2.1 6) (C.1 12) (C.2.2.2.2.2 6) (M.2.2.2.1 9 0) (M.2.2.2.1 10 0) (M.2.2.2.1 11) (M.2.2.2.1 12) (M.2.2.2.2 3) (6 * 0) := js.1
  rcases j0 with ⟨h1, h2, h3, h4⟩ | ⟨h1, h2, h3, ⟨s9, hs9, h4, h5⟩, h6⟩
  · exact v_ok hJ0 (r_X11_like20_miss hq h1) (r_lkM_miss (s := 2) (o := 0) (by omega) (by omega) (by omega) (by rw [h3]; decide)) rfl
  · obtain ⟨f2, hf2, q9⟩ := r_X11_like20 (G := G) (C := C) (tl := g_hm G M ++ ob) hq h1 h2 (fun j hj => (h6 j hj).fo.fo)
    have w1 : v_Js G ob 1 (C.2.1 6) (C.1 12) f2 (upd (M.2.2.2.1 9) 2 (M.2.2.2.1 9 0) 2) (upd (M.2.2.2.1 10) 2 (M.2.2.2.1 10 0) 2) (f_mvI (M.2.2.2.1 11) (f_tkI (M.2.2.2.1 13) (M.2.2.2.1 11) (6 * 0 + 0) 6) (6 * 2) 6) (f_mvI (M.2.2.2.1 12) (f_tkI (M.2.2.2.1 14) (M.2.2.2.1 12) (6 * 0 + 0) 6) (6 * 2) 6) (f_mvL (M.2.2.2.2 3) (f_tkL (M.2.2.2.2 4) (M.2.2.2.2 3) (6 * 0 + 0) 6) (6 * 2) 6) (6 * 2) := Or.inr ⟨by decide, h2, pk_us.trans h3, ⟨s9, hs9, h4, pk_us.trans h5⟩, fun i hi => (h6 i hi).cg (by rw [hf2 i (by omega), if_pos hi]) (v_mtI_in (by omega) (by omega)) (v_mtI_in (by omega) (by omega)) (v_mtL_in (by omega) (by omega))⟩
    have u0 : v_Js G ob (C.2.1 3) (C.2.1 6) (C.1 12) (C.2.2.2.2.2 6) (M.2.2.2.1 9 0) (M.2.2.2.1 10 0) (f_mvI (M.2.2.2.1 11) (f_tkI (M.2.2.2.1 13) (M.2.2.2.1 11) (6 * 0 + 0) 6) (6 * 2) 6) (f_mvI (M.2.2.2.1 12) (f_tkI (M.2.2.2.1 14) (M.2.2.2.1 12) (6 * 0 + 0) 6) (6 * 2) 6) (f_mvL (M.2.2.2.2 3) (f_tkL (M.2.2.2.2 4) (M.2.2.2.2 3) (6 * 0 + 0) 6) (6 * 2) 6) (6 * 0) := v_Js.oth js.1 (fun i hi => v_mtI_out (by omega) (by omega)) (fun i hi => v_mtI_out (by omega) (by omega)) (fun i hi => v_mtL_out (by omega) (by omega))
    have u1 : v_Js G ob (C.2.1 4) (C.2.1 7) (C.1 13) (C.2.2.2.2.2 7) (M.2.2.2.1 9 1) (M.2.2.2.1 10 1) (f_mvI (M.2.2.2.1 11) (f_tkI (M.2.2.2.1 13) (M.2.2.2.1 11) (6 * 0 + 0) 6) (6 * 2) 6) (f_mvI (M.2.2.2.1 12) (f_tkI (M.2.2.2.1 14) (M.2.2.2.1 12) (6 * 0 + 0) 6) (6 * 2) 6) (f_mvL (M.2.2.2.2 3) (f_tkL (M.2.2.2.2 4) (M.2.2.2.2 3) (6 * 0 + 0) 6) (6 * 2) 6) (6 * 1) := v_Js.oth js.2.1 (fun i hi => v_mtI_out (by omega) (by omega)) (fun i hi => v_mtI_out (by omega) (by omega)) (fun i hi => v_mtL_out (by omega) (by omega))
    have q8 := r_lkM (G := G) (C := f_uR (f_un (f_ui (f_ui C 5 1) 8 (C.2.1 6)) 14 (C.1 12)) 8 f2) (M := M) (ob := ob) (s := 2) (o := 0) (by omega) (by omega) (by omega) (by rw [h5]; exact nI_pos' (by omega))
    rw [v_lkR] at q8
    refine v_ok (C2 := f_uR (f_un (f_ui (f_ui C 5 1) 8 (C.2.1 6)) 14 (C.1 12)) 8 f2) ?_ q9 q8 h3.symm
    exact ⟨F, ja, jb, jg, jc, ji, jt, jp, jr, ⟨u0, u1, w1⟩, jl, jq⟩
theorem v_like21 (hJ : v_J G C M ob) : v_Ok Value.int mX11_like mX12_like [.int 2, .int 1] G C M ob := by
  have hJ0 := hJ
  have hq := hJ.qs
  obtain ⟨F, ja, jb, jg, jc, ji, jt, jp, jr, js, jl, jq⟩ := hJ
  have j0 : v_Js G ob (C.2.1 4) (C.2.1 7) (C.1 13) (C.2.2.2.2.2 7) (M.2.2.2.1 9 1) (M.2.2.2.1 10 1) (M.2.2.2.1 11) (M.2.2.2.1 12) (M.2.2.2.2 3) (6 * 1) := js.2.1
  rcases j0 with ⟨h1, h2, h3, h4⟩ | ⟨h1, h2, h3, ⟨s9, hs9, h4, h5⟩, h6⟩
  · exact v_ok hJ0 (r_X11_like21_miss hq h1) (r_lkM_miss (s := 2) (o := 1) (by omega) (by omega) (by omega) (by rw [h3]; decide)) rfl
  · obtain ⟨f2, hf2, q9⟩ := r_X11_like21 (G := G) (C := C) (tl := g_hm G M ++ ob) hq h1 h2 (fun j hj => (h6 j hj).fo.fo)
    have w1 : v_Js G ob 1 (C.2.1 7) (C.1 13) f2 (upd (M.2.2.2.1 9) 2 (M.2.2.2.1 9 1) 2) (upd (M.2.2.2.1 10) 2 (M.2.2.2.1 10 1) 2) (f_mvI (M.2.2.2.1 11) (f_tkI (M.2.2.2.1 13) (M.2.2.2.1 11) (6 * 1 + 0) 6) (6 * 2) 6) (f_mvI (M.2.2.2.1 12) (f_tkI (M.2.2.2.1 14) (M.2.2.2.1 12) (6 * 1 + 0) 6) (6 * 2) 6) (f_mvL (M.2.2.2.2 3) (f_tkL (M.2.2.2.2 4) (M.2.2.2.2 3) (6 * 1 + 0) 6) (6 * 2) 6) (6 * 2) := Or.inr ⟨by decide, h2, pk_us.trans h3, ⟨s9, hs9, h4, pk_us.trans h5⟩, fun i hi => (h6 i hi).cg (by rw [hf2 i (by omega), if_pos hi]) (v_mtI_in (by omega) (by omega)) (v_mtI_in (by omega) (by omega)) (v_mtL_in (by omega) (by omega))⟩
    have u0 : v_Js G ob (C.2.1 3) (C.2.1 6) (C.1 12) (C.2.2.2.2.2 6) (M.2.2.2.1 9 0) (M.2.2.2.1 10 0) (f_mvI (M.2.2.2.1 11) (f_tkI (M.2.2.2.1 13) (M.2.2.2.1 11) (6 * 1 + 0) 6) (6 * 2) 6) (f_mvI (M.2.2.2.1 12) (f_tkI (M.2.2.2.1 14) (M.2.2.2.1 12) (6 * 1 + 0) 6) (6 * 2) 6) (f_mvL (M.2.2.2.2 3) (f_tkL (M.2.2.2.2 4) (M.2.2.2.2 3) (6 * 1 + 0) 6) (6 * 2) 6) (6 * 0) := v_Js.oth js.1 (fun i hi => v_mtI_out (by omega) (by omega)) (fun i hi => v_mtI_out (by omega) (by omega)) (fun i hi => v_mtL_out (by omega) (by omega))
    have u1 : v_Js G ob (C.2.1 4) (C.2.1 7) (C.1 13) (C.2.2.2.2.2 7) (M.2.2.2.1 9 1) (M.2.2.2.1 10 1) (f_mvI (M.2.2.2.1 11) (f_tkI (M.2.2.2.1 13) (M.2.2.2.1 11) (6 * 1 + 0) 6) (6 * 2) 6) (f_mvI (M.2.2.2.1 12) (f_tkI (M.2.2.2.1 14) (M.2.2.2.1 12) (6 * 1 + 0) 6) (6 * 2) 6) (f_mvL (M.2.2.2.2 3) (f_tkL (M.2.2.2.2 4) (M.2.2.2.2 3) (6 * 1 + 0) 6) (6 * 2) 6) (6 * 1) := v_Js.oth js.2.1 (fun i hi => v_mtI_out (by omega) (by omega)) (fun i hi => v_mtI_out (by omega) (by omega)) (fun i hi => v_mtL_out (by omega) (by omega))
    have q8 := r_lkM (G := G) (C := f_uR (f_un (f_ui (f_ui C 5 1) 8 (C.2.1 7)) 14 (C.1 13)) 8 f2) (M := M) (ob := ob) (s := 2) (o := 1) (by omega) (by omega) (by omega) (by rw [h5]; exact nI_pos' (by omega))
    rw [v_lkR] at q8
    refine v_ok (C2 := f_uR (f_un (f_ui (f_ui C 5 1) 8 (C.2.1 7)) 14 (C.1 13)) 8 f2) ?_ q9 q8 h3.symm
    exact ⟨F, ja, jb, jg, jc, ji, jt, jp, jr, ⟨u0, u1, w1⟩, jl, jq⟩
theorem v_like (hJ : v_J G C M ob) : v_Ok Value.int mX11_like mX12_like [.int y, .int y2] G C M ob := by
  have hq := hJ.qs
  rcases v_c2 y with hy | rfl | rfl | rfl
  · rcases v_c2 y2 with hz | rfl | rfl | rfl
    · exact v_ok hJ (r_X11_like_bad (v_b3 hy).1 (v_b3 hz).1) (r_lkM_b0 (v_b3 hy).2) rfl
    · exact v_ok hJ (r_X11_like_bad1_0 hq (v_b3 hy).1) (r_lkM_b0 (v_b3 hy).2) rfl
    · exact v_ok hJ (r_X11_like_bad1_1 hq (v_b3 hy).1) (r_lkM_b0 (v_b3 hy).2) rfl
    · exact v_ok hJ (r_X11_like_bad1_2 hq (v_b3 hy).1) (r_lkM_b0 (v_b3 hy).2) rfl
  · rcases v_c2 y2 with hz | rfl | rfl | rfl
    · exact v_ok hJ (r_X11_like_bad2_0 hq (v_b3 hz).1) (r_lkM_b1 (s := 0) (by omega) (v_b3 hz).2) rfl
    · exact v_ok hJ (r_X11_like_same_0 hq) (r_lkM_same (s := 0) (by omega)) rfl
    · exact v_like01 hJ
    · exact v_like02 hJ
  · rcases v_c2 y2 with hz | rfl | rfl | rfl
    · exact v_ok hJ (r_X11_like_bad2_1 hq (v_b3 hz).1) (r_lkM_b1 (s := 1) (by omega) (v_b3 hz).2) rfl
    · exact v_like10 hJ
    · exact v_ok hJ (r_X11_like_same_1 hq) (r_lkM_same (s := 1) (by omega)) rfl
    · exact v_like12 hJ
  · rcases v_c2 y2 with hz | rfl | rfl | rfl
    · exact v_ok hJ (r_X11_like_bad2_2 hq (v_b3 hz).1) (r_lkM_b1 (s := 2) (by omega) (v_b3 hz).2) rfl
    · exact v_like20 hJ
    · exact v_like21 hJ
    · exact v_ok hJ (r_X11_like_same_2 hq) (r_lkM_same (s := 2) (by omega)) rfl
end VG1
