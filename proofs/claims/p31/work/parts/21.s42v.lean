section PrtS42v
noncomputable abbrev m_X11_tried : g_M := (g_cn 11, yX11_tried, cX11_tried, 3, (some .int), g_look2 ttX11_tried)
set_option maxRecDepth 20000 in
theorem mt_X11_tried : g_mt 127 = some m_X11_tried := rfl
noncomputable def f_X11_tried (c : Nat) (b : Nat) (m : Int32) (a : Int32) (S : v_Sf) : Int32 := (if m < (Int32.ofInt 1) then Int32.ofInt (-1) else (if (Int32.ofInt 60) < m then Int32.ofInt (-1) else (if ¬ (f_X11_within a (Int32.ofInt 6)) = 0 then (if a = Int32.ofInt 0 then (g_X0_go c b 21 m (g_X7_copy 21 1 S)) 75 3 else (if a = Int32.ofInt 1 then ((g_X0_go c b 21 m (g_X7_copy 21 1 S)) 21 12) - ((g_X0_go c b 21 m (g_X7_copy 21 1 S)) 1 12) else (if a = Int32.ofInt 2 then ((g_X0_go c b 21 m (g_X7_copy 21 1 S)) 21 13) - ((g_X0_go c b 21 m (g_X7_copy 21 1 S)) 1 13) else (if a = Int32.ofInt 3 then (g_X0_go c b 21 m (g_X7_copy 21 1 S)) 75 4 else (if a = Int32.ofInt 4 then (g_X0_go c b 21 m (g_X7_copy 21 1 S)) 75 5 else (if a = Int32.ofInt 5 then (g_X0_go c b 21 m (g_X7_copy 21 1 S)) 75 6 else (if a = Int32.ofInt 6 then (g_X0_go c b 21 m (g_X7_copy 21 1 S)) 75 7 else (if (f_X7_hasGust 21 (a - (Int32.ofInt 10)) (g_X0_go c b 21 m (g_X7_copy 21 1 S))) = 0 then Int32.ofInt (-1) else (g_X0_go c b 21 m (g_X7_copy 21 1 S)) 22 ((a - (Int32.ofInt 10)).toInt.toNat))))))))) else (if ¬ (f_X7_hasGust 1 (a - (Int32.ofInt 10)) S) = 0 then (if a = Int32.ofInt 0 then (g_X0_go c b 21 m (g_X7_copy 21 1 S)) 75 3 else (if a = Int32.ofInt 1 then ((g_X0_go c b 21 m (g_X7_copy 21 1 S)) 21 12) - ((g_X0_go c b 21 m (g_X7_copy 21 1 S)) 1 12) else (if a = Int32.ofInt 2 then ((g_X0_go c b 21 m (g_X7_copy 21 1 S)) 21 13) - ((g_X0_go c b 21 m (g_X7_copy 21 1 S)) 1 13) else (if a = Int32.ofInt 3 then (g_X0_go c b 21 m (g_X7_copy 21 1 S)) 75 4 else (if a = Int32.ofInt 4 then (g_X0_go c b 21 m (g_X7_copy 21 1 S)) 75 5 else (if a = Int32.ofInt 5 then (g_X0_go c b 21 m (g_X7_copy 21 1 S)) 75 6 else (if a = Int32.ofInt 6 then (g_X0_go c b 21 m (g_X7_copy 21 1 S)) 75 7 else (if (f_X7_hasGust 21 (a - (Int32.ofInt 10)) (g_X0_go c b 21 m (g_X7_copy 21 1 S))) = 0 then Int32.ofInt (-1) else (g_X0_go c b 21 m (g_X7_copy 21 1 S)) 22 ((a - (Int32.ofInt 10)).toInt.toNat))))))))) else Int32.ofInt (-1)))))
noncomputable def g_X11_tried (c : Nat) (b : Nat) (m : Int32) (a : Int32) (S : v_Sf) : v_Sf := (if m < (Int32.ofInt 1) then S else (if (Int32.ofInt 60) < m then S else (if ¬ (f_X11_within a (Int32.ofInt 6)) = 0 then g_X0_go c b 21 m (g_X7_copy 21 1 S) else (if ¬ (f_X7_hasGust 1 (a - (Int32.ofInt 10)) S) = 0 then g_X0_go c b 21 m (g_X7_copy 21 1 S) else S))))
set_option maxRecDepth 4000 in
theorem c_X11_tried (L : Nat) (xs : Nat → Int32) (n d : Nat) {R : v_Rf} (hW : z_W R) {c : Nat} (hL : R 50 2 = some (c + 1)) (hc : z_cd c) {b : Nat} (hB : R 50 3 = some (b + 1)) (hb : z_cd b) (m : Int32) (a : Int32) (S : v_Sf) : u_P L xs n d m_X11_tried 0 (lv_args 0 [.ref 1, .int m, .int a]) [] S R (z_Q R (fun v S1 => f_X11_tried c b m a S = v ∧ g_X11_tried c b m a S = S1)) := by
  show u_P L xs n d m_X11_tried 0 [(0, .ref 1), (1, .int m), (2, .int a)] [] S R _
  refine u_st rfl (fun _ => rfl) ?_
  refine u_st rfl (fun _ => rfl) ?_
  show u_P L xs n d m_X11_tried 2 [(0, .ref 1), (1, .int m), (2, .int a)] [.int (Int32.ofInt 1), .int m] S R _
  refine u_ic_lt rfl (fun h1 => ?_) (fun h1 => ?_)
  · show u_P L xs n d m_X11_tried 34 [(0, .ref 1), (1, .int m), (2, .int a)] [] S R _
    refine u_st rfl (fun _ => rfl) ?_
    show u_P L xs n d m_X11_tried 35 [(0, .ref 1), (1, .int m), (2, .int a)] [.int (Int32.ofInt (-1))] S R _
    exact u_ret rfl rfl ⟨_, rfl, rfl, by rw [f_X11_tried, if_pos h1], by rw [g_X11_tried, if_pos h1]⟩
  · show u_P L xs n d m_X11_tried 5 [(0, .ref 1), (1, .int m), (2, .int a)] [] S R _
    refine u_st rfl (fun _ => rfl) ?_
    refine u_st rfl (fun _ => rfl) ?_
    show u_P L xs n d m_X11_tried 8 [(0, .ref 1), (1, .int m), (2, .int a)] [.int (Int32.ofInt 60), .int m] S R _
    refine u_ic_gt rfl (fun h2 => ?_) (fun h2 => ?_)
    · show u_P L xs n d m_X11_tried 34 [(0, .ref 1), (1, .int m), (2, .int a)] [] S R _
      refine u_st rfl (fun _ => rfl) ?_
      show u_P L xs n d m_X11_tried 35 [(0, .ref 1), (1, .int m), (2, .int a)] [.int (Int32.ofInt (-1))] S R _
      exact u_ret rfl rfl ⟨_, rfl, rfl, by rw [f_X11_tried, if_neg h1, if_pos h2], by rw [g_X11_tried, if_neg h1, if_pos h2]⟩
    · show u_P L xs n d m_X11_tried 11 [(0, .ref 1), (1, .int m), (2, .int a)] [] S R _
      refine u_st rfl (fun _ => rfl) ?_
      refine u_st rfl (fun _ => rfl) ?_
      show u_P L xs n d m_X11_tried 14 [(0, .ref 1), (1, .int m), (2, .int a)] [.int (Int32.ofInt 6), .int a] S R _
      refine u_cs (ac := [.int a, .int (Int32.ofInt 6)]) (rest := []) rfl (by decide) mt_X11_within (fun _ => rfl) (Nat.le_of_ble_eq_true rfl) (Nat.le_of_ble_eq_true rfl) (fun d' => c_X11_within L xs n d' a (Int32.ofInt 6) S R) ?_
      rintro _ _ _ ⟨_, rfl, rfl, rfl, rfl⟩
      show u_P L xs n d m_X11_tried 17 [(0, .ref 1), (1, .int m), (2, .int a)] [.int (f_X11_within a (Int32.ofInt 6))] S R _
      refine u_if_ne rfl (fun h3 => ?_) (fun h3 => ?_)
      · show u_P L xs n d m_X11_tried 36 [(0, .ref 1), (1, .int m), (2, .int a)] [] S R _
        refine u_st rfl (fun _ => rfl) ?_
        show u_P L xs n d m_X11_tried 37 [(0, .ref 1), (1, .int m), (2, .int a)] [.ref 1] S R _
        refine u_getr rfl v_tyC rfl ?_
        refine u_st rfl (fun _ => rfl) ?_
        show u_P L xs n d m_X11_tried 41 [(0, .ref 1), (1, .int m), (2, .int a)] [.ref 1, .ref 22] S R _
        refine u_getr rfl v_tyC rfl ?_
        show u_P L xs n d m_X11_tried 44 [(0, .ref 1), (1, .int m), (2, .int a)] [.ref 2, .ref 22] S R _
        refine u_cv (rest := []) rfl (by decide) mt_X7_copy rfl rfl rfl rfl (Nat.le_of_ble_eq_true rfl) (Nat.le_of_ble_eq_true rfl) (Nat.le_of_ble_eq_true rfl) (fun d' => c_X7_copy L xs n d' 21 (Or.inr (Or.inr rfl)) 1 (Or.inl rfl) S R) ?_
        rintro _ _ _ ⟨rfl, rfl, rfl⟩
        refine u_st rfl (fun _ => rfl) ?_
        show u_P L xs n d m_X11_tried 48 [(0, .ref 1), (1, .int m), (2, .int a)] [.ref 1] (g_X7_copy 21 1 S) R _
        refine u_getr rfl v_tyC rfl ?_
        refine u_st rfl (fun _ => rfl) ?_
        show u_P L xs n d m_X11_tried 52 [(0, .ref 1), (1, .int m), (2, .int a)] [.ref 1, .ref 76] (g_X7_copy 21 1 S) R _
        refine u_getr rfl v_tyC rfl ?_
        refine u_st rfl (fun _ => rfl) ?_
        show u_P L xs n d m_X11_tried 56 [(0, .ref 1), (1, .int m), (2, .int a)] [.int m, .ref 22, .ref 76] (g_X7_copy 21 1 S) R _
        refine u_cv (rest := []) rfl (by decide) mt_X0_go rfl rfl rfl rfl (Nat.le_of_ble_eq_true rfl) (Nat.le_of_ble_eq_true rfl) (Nat.le_of_ble_eq_true rfl) (fun d' => c_X0_go L xs n d' hW hL hc hB hb 21 (Or.inr (Or.inr rfl)) m (g_X7_copy 21 1 S)) ?_
        rintro _ _ _ ⟨rfl, rfl, rfl⟩
        refine u_st rfl (fun _ => rfl) ?_
        show u_P L xs n d m_X11_tried 60 [(0, .ref 1), (1, .int m), (2, .int a)] [.int a] (g_X0_go c b 21 m (g_X7_copy 21 1 S)) R _
        by_cases h4_0 : a = Int32.ofInt 0
        · refine u_jm (t := 104) (sc1 := []) rfl rfl rfl (by rw [h4_0]; rfl) ?_
          show u_P L xs n d m_X11_tried 104 [(0, .ref 1), (1, .int m), (2, .int a)] [] (g_X0_go c b 21 m (g_X7_copy 21 1 S)) R _
          refine u_st rfl (fun _ => rfl) ?_
          show u_P L xs n d m_X11_tried 105 [(0, .ref 1), (1, .int m), (2, .int a)] [.ref 1] (g_X0_go c b 21 m (g_X7_copy 21 1 S)) R _
          refine u_getr rfl v_tyC rfl ?_
          show u_P L xs n d m_X11_tried 108 [(0, .ref 1), (1, .int m), (2, .int a)] [.ref 76] (g_X0_go c b 21 m (g_X7_copy 21 1 S)) R _
          refine u_getE (v := (g_X0_go c b 21 m (g_X7_copy 21 1 S)) 75 3) rfl rfl rfl rfl ?_
          show u_P L xs n d m_X11_tried 111 [(0, .ref 1), (1, .int m), (2, .int a)] [.int ((g_X0_go c b 21 m (g_X7_copy 21 1 S)) 75 3)] (g_X0_go c b 21 m (g_X7_copy 21 1 S)) R _
          exact u_ret rfl rfl ⟨_, rfl, rfl, by rw [f_X11_tried, if_neg h1, if_neg h2, if_pos h3, if_pos h4_0], by rw [g_X11_tried, if_neg h1, if_neg h2, if_pos h3]⟩
        · by_cases h4_1 : a = Int32.ofInt 1
          · refine u_jm (t := 112) (sc1 := []) rfl rfl rfl (by rw [h4_1]; rfl) ?_
            show u_P L xs n d m_X11_tried 112 [(0, .ref 1), (1, .int m), (2, .int a)] [] (g_X0_go c b 21 m (g_X7_copy 21 1 S)) R _
            refine u_st rfl (fun _ => rfl) ?_
            show u_P L xs n d m_X11_tried 113 [(0, .ref 1), (1, .int m), (2, .int a)] [.ref 1] (g_X0_go c b 21 m (g_X7_copy 21 1 S)) R _
            refine u_getr rfl v_tyC rfl ?_
            show u_P L xs n d m_X11_tried 116 [(0, .ref 1), (1, .int m), (2, .int a)] [.ref 22] (g_X0_go c b 21 m (g_X7_copy 21 1 S)) R _
            refine u_getE (v := (g_X0_go c b 21 m (g_X7_copy 21 1 S)) 21 12) rfl rfl rfl rfl ?_
            refine u_st rfl (fun _ => rfl) ?_
            show u_P L xs n d m_X11_tried 120 [(0, .ref 1), (1, .int m), (2, .int a)] [.ref 1, .int ((g_X0_go c b 21 m (g_X7_copy 21 1 S)) 21 12)] (g_X0_go c b 21 m (g_X7_copy 21 1 S)) R _
            refine u_getr rfl v_tyC rfl ?_
            show u_P L xs n d m_X11_tried 123 [(0, .ref 1), (1, .int m), (2, .int a)] [.ref 2, .int ((g_X0_go c b 21 m (g_X7_copy 21 1 S)) 21 12)] (g_X0_go c b 21 m (g_X7_copy 21 1 S)) R _
            refine u_getE (v := (g_X0_go c b 21 m (g_X7_copy 21 1 S)) 1 12) rfl rfl rfl rfl ?_
            refine u_st rfl (fun _ => rfl) ?_
            show u_P L xs n d m_X11_tried 127 [(0, .ref 1), (1, .int m), (2, .int a)] [.int (((g_X0_go c b 21 m (g_X7_copy 21 1 S)) 21 12) - ((g_X0_go c b 21 m (g_X7_copy 21 1 S)) 1 12))] (g_X0_go c b 21 m (g_X7_copy 21 1 S)) R _
            exact u_ret rfl rfl ⟨_, rfl, rfl, by rw [f_X11_tried, if_neg h1, if_neg h2, if_pos h3, if_neg h4_0, if_pos h4_1], by rw [g_X11_tried, if_neg h1, if_neg h2, if_pos h3]⟩
          · by_cases h4_2 : a = Int32.ofInt 2
            · refine u_jm (t := 128) (sc1 := []) rfl rfl rfl (by rw [h4_2]; rfl) ?_
              show u_P L xs n d m_X11_tried 128 [(0, .ref 1), (1, .int m), (2, .int a)] [] (g_X0_go c b 21 m (g_X7_copy 21 1 S)) R _
              refine u_st rfl (fun _ => rfl) ?_
              show u_P L xs n d m_X11_tried 129 [(0, .ref 1), (1, .int m), (2, .int a)] [.ref 1] (g_X0_go c b 21 m (g_X7_copy 21 1 S)) R _
              refine u_getr rfl v_tyC rfl ?_
              show u_P L xs n d m_X11_tried 132 [(0, .ref 1), (1, .int m), (2, .int a)] [.ref 22] (g_X0_go c b 21 m (g_X7_copy 21 1 S)) R _
              refine u_getE (v := (g_X0_go c b 21 m (g_X7_copy 21 1 S)) 21 13) rfl rfl rfl rfl ?_
              refine u_st rfl (fun _ => rfl) ?_
              show u_P L xs n d m_X11_tried 136 [(0, .ref 1), (1, .int m), (2, .int a)] [.ref 1, .int ((g_X0_go c b 21 m (g_X7_copy 21 1 S)) 21 13)] (g_X0_go c b 21 m (g_X7_copy 21 1 S)) R _
              refine u_getr rfl v_tyC rfl ?_
              show u_P L xs n d m_X11_tried 139 [(0, .ref 1), (1, .int m), (2, .int a)] [.ref 2, .int ((g_X0_go c b 21 m (g_X7_copy 21 1 S)) 21 13)] (g_X0_go c b 21 m (g_X7_copy 21 1 S)) R _
              refine u_getE (v := (g_X0_go c b 21 m (g_X7_copy 21 1 S)) 1 13) rfl rfl rfl rfl ?_
              refine u_st rfl (fun _ => rfl) ?_
              show u_P L xs n d m_X11_tried 143 [(0, .ref 1), (1, .int m), (2, .int a)] [.int (((g_X0_go c b 21 m (g_X7_copy 21 1 S)) 21 13) - ((g_X0_go c b 21 m (g_X7_copy 21 1 S)) 1 13))] (g_X0_go c b 21 m (g_X7_copy 21 1 S)) R _
              exact u_ret rfl rfl ⟨_, rfl, rfl, by rw [f_X11_tried, if_neg h1, if_neg h2, if_pos h3, if_neg h4_0, if_neg h4_1, if_pos h4_2], by rw [g_X11_tried, if_neg h1, if_neg h2, if_pos h3]⟩
            · by_cases h4_3 : a = Int32.ofInt 3
              · refine u_jm (t := 144) (sc1 := []) rfl rfl rfl (by rw [h4_3]; rfl) ?_
                show u_P L xs n d m_X11_tried 144 [(0, .ref 1), (1, .int m), (2, .int a)] [] (g_X0_go c b 21 m (g_X7_copy 21 1 S)) R _
                refine u_st rfl (fun _ => rfl) ?_
                show u_P L xs n d m_X11_tried 145 [(0, .ref 1), (1, .int m), (2, .int a)] [.ref 1] (g_X0_go c b 21 m (g_X7_copy 21 1 S)) R _
                refine u_getr rfl v_tyC rfl ?_
                show u_P L xs n d m_X11_tried 148 [(0, .ref 1), (1, .int m), (2, .int a)] [.ref 76] (g_X0_go c b 21 m (g_X7_copy 21 1 S)) R _
                refine u_getE (v := (g_X0_go c b 21 m (g_X7_copy 21 1 S)) 75 4) rfl rfl rfl rfl ?_
                show u_P L xs n d m_X11_tried 151 [(0, .ref 1), (1, .int m), (2, .int a)] [.int ((g_X0_go c b 21 m (g_X7_copy 21 1 S)) 75 4)] (g_X0_go c b 21 m (g_X7_copy 21 1 S)) R _
                exact u_ret rfl rfl ⟨_, rfl, rfl, by rw [f_X11_tried, if_neg h1, if_neg h2, if_pos h3, if_neg h4_0, if_neg h4_1, if_neg h4_2, if_pos h4_3], by rw [g_X11_tried, if_neg h1, if_neg h2, if_pos h3]⟩
              · by_cases h4_4 : a = Int32.ofInt 4
                · refine u_jm (t := 152) (sc1 := []) rfl rfl rfl (by rw [h4_4]; rfl) ?_
                  show u_P L xs n d m_X11_tried 152 [(0, .ref 1), (1, .int m), (2, .int a)] [] (g_X0_go c b 21 m (g_X7_copy 21 1 S)) R _
                  refine u_st rfl (fun _ => rfl) ?_
                  show u_P L xs n d m_X11_tried 153 [(0, .ref 1), (1, .int m), (2, .int a)] [.ref 1] (g_X0_go c b 21 m (g_X7_copy 21 1 S)) R _
                  refine u_getr rfl v_tyC rfl ?_
                  show u_P L xs n d m_X11_tried 156 [(0, .ref 1), (1, .int m), (2, .int a)] [.ref 76] (g_X0_go c b 21 m (g_X7_copy 21 1 S)) R _
                  refine u_getE (v := (g_X0_go c b 21 m (g_X7_copy 21 1 S)) 75 5) rfl rfl rfl rfl ?_
                  show u_P L xs n d m_X11_tried 159 [(0, .ref 1), (1, .int m), (2, .int a)] [.int ((g_X0_go c b 21 m (g_X7_copy 21 1 S)) 75 5)] (g_X0_go c b 21 m (g_X7_copy 21 1 S)) R _
                  exact u_ret rfl rfl ⟨_, rfl, rfl, by rw [f_X11_tried, if_neg h1, if_neg h2, if_pos h3, if_neg h4_0, if_neg h4_1, if_neg h4_2, if_neg h4_3, if_pos h4_4], by rw [g_X11_tried, if_neg h1, if_neg h2, if_pos h3]⟩
                · by_cases h4_5 : a = Int32.ofInt 5
                  · refine u_jm (t := 160) (sc1 := []) rfl rfl rfl (by rw [h4_5]; rfl) ?_
                    show u_P L xs n d m_X11_tried 160 [(0, .ref 1), (1, .int m), (2, .int a)] [] (g_X0_go c b 21 m (g_X7_copy 21 1 S)) R _
                    refine u_st rfl (fun _ => rfl) ?_
                    show u_P L xs n d m_X11_tried 161 [(0, .ref 1), (1, .int m), (2, .int a)] [.ref 1] (g_X0_go c b 21 m (g_X7_copy 21 1 S)) R _
                    refine u_getr rfl v_tyC rfl ?_
                    show u_P L xs n d m_X11_tried 164 [(0, .ref 1), (1, .int m), (2, .int a)] [.ref 76] (g_X0_go c b 21 m (g_X7_copy 21 1 S)) R _
                    refine u_getE (v := (g_X0_go c b 21 m (g_X7_copy 21 1 S)) 75 6) rfl rfl rfl rfl ?_
                    show u_P L xs n d m_X11_tried 167 [(0, .ref 1), (1, .int m), (2, .int a)] [.int ((g_X0_go c b 21 m (g_X7_copy 21 1 S)) 75 6)] (g_X0_go c b 21 m (g_X7_copy 21 1 S)) R _
                    exact u_ret rfl rfl ⟨_, rfl, rfl, by rw [f_X11_tried, if_neg h1, if_neg h2, if_pos h3, if_neg h4_0, if_neg h4_1, if_neg h4_2, if_neg h4_3, if_neg h4_4, if_pos h4_5], by rw [g_X11_tried, if_neg h1, if_neg h2, if_pos h3]⟩
                  · by_cases h4_6 : a = Int32.ofInt 6
                    · refine u_jm (t := 168) (sc1 := []) rfl rfl rfl (by rw [h4_6]; rfl) ?_
                      show u_P L xs n d m_X11_tried 168 [(0, .ref 1), (1, .int m), (2, .int a)] [] (g_X0_go c b 21 m (g_X7_copy 21 1 S)) R _
                      refine u_st rfl (fun _ => rfl) ?_
                      show u_P L xs n d m_X11_tried 169 [(0, .ref 1), (1, .int m), (2, .int a)] [.ref 1] (g_X0_go c b 21 m (g_X7_copy 21 1 S)) R _
                      refine u_getr rfl v_tyC rfl ?_
                      show u_P L xs n d m_X11_tried 172 [(0, .ref 1), (1, .int m), (2, .int a)] [.ref 76] (g_X0_go c b 21 m (g_X7_copy 21 1 S)) R _
                      refine u_getE (v := (g_X0_go c b 21 m (g_X7_copy 21 1 S)) 75 7) rfl rfl rfl rfl ?_
                      show u_P L xs n d m_X11_tried 175 [(0, .ref 1), (1, .int m), (2, .int a)] [.int ((g_X0_go c b 21 m (g_X7_copy 21 1 S)) 75 7)] (g_X0_go c b 21 m (g_X7_copy 21 1 S)) R _
                      exact u_ret rfl rfl ⟨_, rfl, rfl, by rw [f_X11_tried, if_neg h1, if_neg h2, if_pos h3, if_neg h4_0, if_neg h4_1, if_neg h4_2, if_neg h4_3, if_neg h4_4, if_neg h4_5, if_pos h4_6], by rw [g_X11_tried, if_neg h1, if_neg h2, if_pos h3]⟩
                    · refine u_jm (t := 176) (sc1 := []) rfl rfl rfl (by rw [g_jmp]; rw [if_pos (by have := z_ne h4_0; have := z_ne h4_1; have := z_ne h4_2; have := z_ne h4_3; have := z_ne h4_4; have := z_ne h4_5; have := z_ne h4_6; omega)]; rfl) ?_
                      show u_P L xs n d m_X11_tried 176 [(0, .ref 1), (1, .int m), (2, .int a)] [] (g_X0_go c b 21 m (g_X7_copy 21 1 S)) R _
                      refine u_st rfl (fun _ => rfl) ?_
                      show u_P L xs n d m_X11_tried 177 [(0, .ref 1), (1, .int m), (2, .int a)] [.ref 1] (g_X0_go c b 21 m (g_X7_copy 21 1 S)) R _
                      refine u_getr rfl v_tyC rfl ?_
                      refine u_st rfl (fun _ => rfl) ?_
                      refine u_st rfl (fun _ => rfl) ?_
                      refine u_st rfl (fun _ => rfl) ?_
                      show u_P L xs n d m_X11_tried 184 [(0, .ref 1), (1, .int m), (2, .int a)] [.int (a - (Int32.ofInt 10)), .ref 22] (g_X0_go c b 21 m (g_X7_copy 21 1 S)) R _
                      refine u_cv (rest := []) rfl (by decide) mt_X7_hasGust rfl rfl rfl rfl (Nat.le_of_ble_eq_true rfl) (Nat.le_of_ble_eq_true rfl) (Nat.le_of_ble_eq_true rfl) (fun d' => c_X7_hasGust L xs n d' 21 (Or.inr (Or.inr rfl)) (a - (Int32.ofInt 10)) (g_X0_go c b 21 m (g_X7_copy 21 1 S)) R) ?_
                      rintro _ _ _ ⟨_, rfl, rfl, rfl, rfl⟩
                      show u_P L xs n d m_X11_tried 187 [(0, .ref 1), (1, .int m), (2, .int a)] [.int (f_X7_hasGust 21 (a - (Int32.ofInt 10)) (g_X0_go c b 21 m (g_X7_copy 21 1 S)))] (g_X0_go c b 21 m (g_X7_copy 21 1 S)) R _
                      refine u_if_eq rfl (fun h5 => ?_) (fun h5 => ?_)
                      · show u_P L xs n d m_X11_tried 205 [(0, .ref 1), (1, .int m), (2, .int a)] [] (g_X0_go c b 21 m (g_X7_copy 21 1 S)) R _
                        refine u_st rfl (fun _ => rfl) ?_
                        show u_P L xs n d m_X11_tried 206 [(0, .ref 1), (1, .int m), (2, .int a)] [.int (Int32.ofInt (-1))] (g_X0_go c b 21 m (g_X7_copy 21 1 S)) R _
                        exact u_ret rfl rfl ⟨_, rfl, rfl, by rw [f_X11_tried, if_neg h1, if_neg h2, if_pos h3, if_neg h4_0, if_neg h4_1, if_neg h4_2, if_neg h4_3, if_neg h4_4, if_neg h4_5, if_neg h4_6, if_pos h5], by rw [g_X11_tried, if_neg h1, if_neg h2, if_pos h3]⟩
                      · show u_P L xs n d m_X11_tried 190 [(0, .ref 1), (1, .int m), (2, .int a)] [] (g_X0_go c b 21 m (g_X7_copy 21 1 S)) R _
                        refine u_st rfl (fun _ => rfl) ?_
                        show u_P L xs n d m_X11_tried 191 [(0, .ref 1), (1, .int m), (2, .int a)] [.ref 1] (g_X0_go c b 21 m (g_X7_copy 21 1 S)) R _
                        refine u_getr rfl v_tyC rfl ?_
                        show u_P L xs n d m_X11_tried 194 [(0, .ref 1), (1, .int m), (2, .int a)] [.ref 22] (g_X0_go c b 21 m (g_X7_copy 21 1 S)) R _
                        refine u_getr rfl rfl rfl ?_
                        refine u_st rfl (fun _ => rfl) ?_
                        refine u_st rfl (fun _ => rfl) ?_
                        refine u_st rfl (fun _ => rfl) ?_
                        show u_P L xs n d m_X11_tried 201 [(0, .ref 1), (1, .int m), (2, .int a)] [.int (a - (Int32.ofInt 10)), .ref 23] (g_X0_go c b 21 m (g_X7_copy 21 1 S)) R _
                        refine u_ialdE (v := (g_X0_go c b 21 m (g_X7_copy 21 1 S)) 22 ((a - (Int32.ofInt 10)).toInt.toNat)) rfl rfl rfl (fun b61 b62 => ?_)
                        refine u_st rfl (fun _ => rfl) ?_
                        show u_P L xs n d m_X11_tried 206 [(0, .ref 1), (1, .int m), (2, .int a)] [.int ((g_X0_go c b 21 m (g_X7_copy 21 1 S)) 22 ((a - (Int32.ofInt 10)).toInt.toNat))] (g_X0_go c b 21 m (g_X7_copy 21 1 S)) R _
                        exact u_ret rfl rfl ⟨_, rfl, rfl, by rw [f_X11_tried, if_neg h1, if_neg h2, if_pos h3, if_neg h4_0, if_neg h4_1, if_neg h4_2, if_neg h4_3, if_neg h4_4, if_neg h4_5, if_neg h4_6, if_neg h5], by rw [g_X11_tried, if_neg h1, if_neg h2, if_pos h3]⟩
      · show u_P L xs n d m_X11_tried 20 [(0, .ref 1), (1, .int m), (2, .int a)] [] S R _
        refine u_st rfl (fun _ => rfl) ?_
        show u_P L xs n d m_X11_tried 21 [(0, .ref 1), (1, .int m), (2, .int a)] [.ref 1] S R _
        refine u_getr rfl v_tyC rfl ?_
        refine u_st rfl (fun _ => rfl) ?_
        refine u_st rfl (fun _ => rfl) ?_
        refine u_st rfl (fun _ => rfl) ?_
        show u_P L xs n d m_X11_tried 28 [(0, .ref 1), (1, .int m), (2, .int a)] [.int (a - (Int32.ofInt 10)), .ref 2] S R _
        refine u_cv (rest := []) rfl (by decide) mt_X7_hasGust rfl rfl rfl rfl (Nat.le_of_ble_eq_true rfl) (Nat.le_of_ble_eq_true rfl) (Nat.le_of_ble_eq_true rfl) (fun d' => c_X7_hasGust L xs n d' 1 (Or.inl rfl) (a - (Int32.ofInt 10)) S R) ?_
        rintro _ _ _ ⟨_, rfl, rfl, rfl, rfl⟩
        show u_P L xs n d m_X11_tried 31 [(0, .ref 1), (1, .int m), (2, .int a)] [.int (f_X7_hasGust 1 (a - (Int32.ofInt 10)) S)] S R _
        refine u_if_ne rfl (fun h7 => ?_) (fun h7 => ?_)
        · show u_P L xs n d m_X11_tried 36 [(0, .ref 1), (1, .int m), (2, .int a)] [] S R _
          refine u_st rfl (fun _ => rfl) ?_
          show u_P L xs n d m_X11_tried 37 [(0, .ref 1), (1, .int m), (2, .int a)] [.ref 1] S R _
          refine u_getr rfl v_tyC rfl ?_
          refine u_st rfl (fun _ => rfl) ?_
          show u_P L xs n d m_X11_tried 41 [(0, .ref 1), (1, .int m), (2, .int a)] [.ref 1, .ref 22] S R _
          refine u_getr rfl v_tyC rfl ?_
          show u_P L xs n d m_X11_tried 44 [(0, .ref 1), (1, .int m), (2, .int a)] [.ref 2, .ref 22] S R _
          refine u_cv (rest := []) rfl (by decide) mt_X7_copy rfl rfl rfl rfl (Nat.le_of_ble_eq_true rfl) (Nat.le_of_ble_eq_true rfl) (Nat.le_of_ble_eq_true rfl) (fun d' => c_X7_copy L xs n d' 21 (Or.inr (Or.inr rfl)) 1 (Or.inl rfl) S R) ?_
          rintro _ _ _ ⟨rfl, rfl, rfl⟩
          refine u_st rfl (fun _ => rfl) ?_
          show u_P L xs n d m_X11_tried 48 [(0, .ref 1), (1, .int m), (2, .int a)] [.ref 1] (g_X7_copy 21 1 S) R _
          refine u_getr rfl v_tyC rfl ?_
          refine u_st rfl (fun _ => rfl) ?_
          show u_P L xs n d m_X11_tried 52 [(0, .ref 1), (1, .int m), (2, .int a)] [.ref 1, .ref 76] (g_X7_copy 21 1 S) R _
          refine u_getr rfl v_tyC rfl ?_
          refine u_st rfl (fun _ => rfl) ?_
          show u_P L xs n d m_X11_tried 56 [(0, .ref 1), (1, .int m), (2, .int a)] [.int m, .ref 22, .ref 76] (g_X7_copy 21 1 S) R _
          refine u_cv (rest := []) rfl (by decide) mt_X0_go rfl rfl rfl rfl (Nat.le_of_ble_eq_true rfl) (Nat.le_of_ble_eq_true rfl) (Nat.le_of_ble_eq_true rfl) (fun d' => c_X0_go L xs n d' hW hL hc hB hb 21 (Or.inr (Or.inr rfl)) m (g_X7_copy 21 1 S)) ?_
          rintro _ _ _ ⟨rfl, rfl, rfl⟩
          refine u_st rfl (fun _ => rfl) ?_
          show u_P L xs n d m_X11_tried 60 [(0, .ref 1), (1, .int m), (2, .int a)] [.int a] (g_X0_go c b 21 m (g_X7_copy 21 1 S)) R _
          by_cases h8_0 : a = Int32.ofInt 0
          · refine u_jm (t := 104) (sc1 := []) rfl rfl rfl (by rw [h8_0]; rfl) ?_
            show u_P L xs n d m_X11_tried 104 [(0, .ref 1), (1, .int m), (2, .int a)] [] (g_X0_go c b 21 m (g_X7_copy 21 1 S)) R _
            refine u_st rfl (fun _ => rfl) ?_
            show u_P L xs n d m_X11_tried 105 [(0, .ref 1), (1, .int m), (2, .int a)] [.ref 1] (g_X0_go c b 21 m (g_X7_copy 21 1 S)) R _
            refine u_getr rfl v_tyC rfl ?_
            show u_P L xs n d m_X11_tried 108 [(0, .ref 1), (1, .int m), (2, .int a)] [.ref 76] (g_X0_go c b 21 m (g_X7_copy 21 1 S)) R _
            refine u_getE (v := (g_X0_go c b 21 m (g_X7_copy 21 1 S)) 75 3) rfl rfl rfl rfl ?_
            show u_P L xs n d m_X11_tried 111 [(0, .ref 1), (1, .int m), (2, .int a)] [.int ((g_X0_go c b 21 m (g_X7_copy 21 1 S)) 75 3)] (g_X0_go c b 21 m (g_X7_copy 21 1 S)) R _
            exact u_ret rfl rfl ⟨_, rfl, rfl, by rw [f_X11_tried, if_neg h1, if_neg h2, if_neg h3, if_pos h7, if_pos h8_0], by rw [g_X11_tried, if_neg h1, if_neg h2, if_neg h3, if_pos h7]⟩
          · by_cases h8_1 : a = Int32.ofInt 1
            · refine u_jm (t := 112) (sc1 := []) rfl rfl rfl (by rw [h8_1]; rfl) ?_
              show u_P L xs n d m_X11_tried 112 [(0, .ref 1), (1, .int m), (2, .int a)] [] (g_X0_go c b 21 m (g_X7_copy 21 1 S)) R _
              refine u_st rfl (fun _ => rfl) ?_
              show u_P L xs n d m_X11_tried 113 [(0, .ref 1), (1, .int m), (2, .int a)] [.ref 1] (g_X0_go c b 21 m (g_X7_copy 21 1 S)) R _
              refine u_getr rfl v_tyC rfl ?_
              show u_P L xs n d m_X11_tried 116 [(0, .ref 1), (1, .int m), (2, .int a)] [.ref 22] (g_X0_go c b 21 m (g_X7_copy 21 1 S)) R _
              refine u_getE (v := (g_X0_go c b 21 m (g_X7_copy 21 1 S)) 21 12) rfl rfl rfl rfl ?_
              refine u_st rfl (fun _ => rfl) ?_
              show u_P L xs n d m_X11_tried 120 [(0, .ref 1), (1, .int m), (2, .int a)] [.ref 1, .int ((g_X0_go c b 21 m (g_X7_copy 21 1 S)) 21 12)] (g_X0_go c b 21 m (g_X7_copy 21 1 S)) R _
              refine u_getr rfl v_tyC rfl ?_
              show u_P L xs n d m_X11_tried 123 [(0, .ref 1), (1, .int m), (2, .int a)] [.ref 2, .int ((g_X0_go c b 21 m (g_X7_copy 21 1 S)) 21 12)] (g_X0_go c b 21 m (g_X7_copy 21 1 S)) R _
              refine u_getE (v := (g_X0_go c b 21 m (g_X7_copy 21 1 S)) 1 12) rfl rfl rfl rfl ?_
              refine u_st rfl (fun _ => rfl) ?_
              show u_P L xs n d m_X11_tried 127 [(0, .ref 1), (1, .int m), (2, .int a)] [.int (((g_X0_go c b 21 m (g_X7_copy 21 1 S)) 21 12) - ((g_X0_go c b 21 m (g_X7_copy 21 1 S)) 1 12))] (g_X0_go c b 21 m (g_X7_copy 21 1 S)) R _
              exact u_ret rfl rfl ⟨_, rfl, rfl, by rw [f_X11_tried, if_neg h1, if_neg h2, if_neg h3, if_pos h7, if_neg h8_0, if_pos h8_1], by rw [g_X11_tried, if_neg h1, if_neg h2, if_neg h3, if_pos h7]⟩
            · by_cases h8_2 : a = Int32.ofInt 2
              · refine u_jm (t := 128) (sc1 := []) rfl rfl rfl (by rw [h8_2]; rfl) ?_
                show u_P L xs n d m_X11_tried 128 [(0, .ref 1), (1, .int m), (2, .int a)] [] (g_X0_go c b 21 m (g_X7_copy 21 1 S)) R _
                refine u_st rfl (fun _ => rfl) ?_
                show u_P L xs n d m_X11_tried 129 [(0, .ref 1), (1, .int m), (2, .int a)] [.ref 1] (g_X0_go c b 21 m (g_X7_copy 21 1 S)) R _
                refine u_getr rfl v_tyC rfl ?_
                show u_P L xs n d m_X11_tried 132 [(0, .ref 1), (1, .int m), (2, .int a)] [.ref 22] (g_X0_go c b 21 m (g_X7_copy 21 1 S)) R _
                refine u_getE (v := (g_X0_go c b 21 m (g_X7_copy 21 1 S)) 21 13) rfl rfl rfl rfl ?_
                refine u_st rfl (fun _ => rfl) ?_
                show u_P L xs n d m_X11_tried 136 [(0, .ref 1), (1, .int m), (2, .int a)] [.ref 1, .int ((g_X0_go c b 21 m (g_X7_copy 21 1 S)) 21 13)] (g_X0_go c b 21 m (g_X7_copy 21 1 S)) R _
                refine u_getr rfl v_tyC rfl ?_
                show u_P L xs n d m_X11_tried 139 [(0, .ref 1), (1, .int m), (2, .int a)] [.ref 2, .int ((g_X0_go c b 21 m (g_X7_copy 21 1 S)) 21 13)] (g_X0_go c b 21 m (g_X7_copy 21 1 S)) R _
                refine u_getE (v := (g_X0_go c b 21 m (g_X7_copy 21 1 S)) 1 13) rfl rfl rfl rfl ?_
                refine u_st rfl (fun _ => rfl) ?_
                show u_P L xs n d m_X11_tried 143 [(0, .ref 1), (1, .int m), (2, .int a)] [.int (((g_X0_go c b 21 m (g_X7_copy 21 1 S)) 21 13) - ((g_X0_go c b 21 m (g_X7_copy 21 1 S)) 1 13))] (g_X0_go c b 21 m (g_X7_copy 21 1 S)) R _
                exact u_ret rfl rfl ⟨_, rfl, rfl, by rw [f_X11_tried, if_neg h1, if_neg h2, if_neg h3, if_pos h7, if_neg h8_0, if_neg h8_1, if_pos h8_2], by rw [g_X11_tried, if_neg h1, if_neg h2, if_neg h3, if_pos h7]⟩
              · by_cases h8_3 : a = Int32.ofInt 3
                · refine u_jm (t := 144) (sc1 := []) rfl rfl rfl (by rw [h8_3]; rfl) ?_
                  show u_P L xs n d m_X11_tried 144 [(0, .ref 1), (1, .int m), (2, .int a)] [] (g_X0_go c b 21 m (g_X7_copy 21 1 S)) R _
                  refine u_st rfl (fun _ => rfl) ?_
                  show u_P L xs n d m_X11_tried 145 [(0, .ref 1), (1, .int m), (2, .int a)] [.ref 1] (g_X0_go c b 21 m (g_X7_copy 21 1 S)) R _
                  refine u_getr rfl v_tyC rfl ?_
                  show u_P L xs n d m_X11_tried 148 [(0, .ref 1), (1, .int m), (2, .int a)] [.ref 76] (g_X0_go c b 21 m (g_X7_copy 21 1 S)) R _
                  refine u_getE (v := (g_X0_go c b 21 m (g_X7_copy 21 1 S)) 75 4) rfl rfl rfl rfl ?_
                  show u_P L xs n d m_X11_tried 151 [(0, .ref 1), (1, .int m), (2, .int a)] [.int ((g_X0_go c b 21 m (g_X7_copy 21 1 S)) 75 4)] (g_X0_go c b 21 m (g_X7_copy 21 1 S)) R _
                  exact u_ret rfl rfl ⟨_, rfl, rfl, by rw [f_X11_tried, if_neg h1, if_neg h2, if_neg h3, if_pos h7, if_neg h8_0, if_neg h8_1, if_neg h8_2, if_pos h8_3], by rw [g_X11_tried, if_neg h1, if_neg h2, if_neg h3, if_pos h7]⟩
                · by_cases h8_4 : a = Int32.ofInt 4
                  · refine u_jm (t := 152) (sc1 := []) rfl rfl rfl (by rw [h8_4]; rfl) ?_
                    show u_P L xs n d m_X11_tried 152 [(0, .ref 1), (1, .int m), (2, .int a)] [] (g_X0_go c b 21 m (g_X7_copy 21 1 S)) R _
                    refine u_st rfl (fun _ => rfl) ?_
                    show u_P L xs n d m_X11_tried 153 [(0, .ref 1), (1, .int m), (2, .int a)] [.ref 1] (g_X0_go c b 21 m (g_X7_copy 21 1 S)) R _
                    refine u_getr rfl v_tyC rfl ?_
                    show u_P L xs n d m_X11_tried 156 [(0, .ref 1), (1, .int m), (2, .int a)] [.ref 76] (g_X0_go c b 21 m (g_X7_copy 21 1 S)) R _
                    refine u_getE (v := (g_X0_go c b 21 m (g_X7_copy 21 1 S)) 75 5) rfl rfl rfl rfl ?_
                    show u_P L xs n d m_X11_tried 159 [(0, .ref 1), (1, .int m), (2, .int a)] [.int ((g_X0_go c b 21 m (g_X7_copy 21 1 S)) 75 5)] (g_X0_go c b 21 m (g_X7_copy 21 1 S)) R _
                    exact u_ret rfl rfl ⟨_, rfl, rfl, by rw [f_X11_tried, if_neg h1, if_neg h2, if_neg h3, if_pos h7, if_neg h8_0, if_neg h8_1, if_neg h8_2, if_neg h8_3, if_pos h8_4], by rw [g_X11_tried, if_neg h1, if_neg h2, if_neg h3, if_pos h7]⟩
                  · by_cases h8_5 : a = Int32.ofInt 5
                    · refine u_jm (t := 160) (sc1 := []) rfl rfl rfl (by rw [h8_5]; rfl) ?_
                      show u_P L xs n d m_X11_tried 160 [(0, .ref 1), (1, .int m), (2, .int a)] [] (g_X0_go c b 21 m (g_X7_copy 21 1 S)) R _
                      refine u_st rfl (fun _ => rfl) ?_
                      show u_P L xs n d m_X11_tried 161 [(0, .ref 1), (1, .int m), (2, .int a)] [.ref 1] (g_X0_go c b 21 m (g_X7_copy 21 1 S)) R _
                      refine u_getr rfl v_tyC rfl ?_
                      show u_P L xs n d m_X11_tried 164 [(0, .ref 1), (1, .int m), (2, .int a)] [.ref 76] (g_X0_go c b 21 m (g_X7_copy 21 1 S)) R _
                      refine u_getE (v := (g_X0_go c b 21 m (g_X7_copy 21 1 S)) 75 6) rfl rfl rfl rfl ?_
                      show u_P L xs n d m_X11_tried 167 [(0, .ref 1), (1, .int m), (2, .int a)] [.int ((g_X0_go c b 21 m (g_X7_copy 21 1 S)) 75 6)] (g_X0_go c b 21 m (g_X7_copy 21 1 S)) R _
                      exact u_ret rfl rfl ⟨_, rfl, rfl, by rw [f_X11_tried, if_neg h1, if_neg h2, if_neg h3, if_pos h7, if_neg h8_0, if_neg h8_1, if_neg h8_2, if_neg h8_3, if_neg h8_4, if_pos h8_5], by rw [g_X11_tried, if_neg h1, if_neg h2, if_neg h3, if_pos h7]⟩
                    · by_cases h8_6 : a = Int32.ofInt 6
                      · refine u_jm (t := 168) (sc1 := []) rfl rfl rfl (by rw [h8_6]; rfl) ?_
                        show u_P L xs n d m_X11_tried 168 [(0, .ref 1), (1, .int m), (2, .int a)] [] (g_X0_go c b 21 m (g_X7_copy 21 1 S)) R _
                        refine u_st rfl (fun _ => rfl) ?_
                        show u_P L xs n d m_X11_tried 169 [(0, .ref 1), (1, .int m), (2, .int a)] [.ref 1] (g_X0_go c b 21 m (g_X7_copy 21 1 S)) R _
                        refine u_getr rfl v_tyC rfl ?_
                        show u_P L xs n d m_X11_tried 172 [(0, .ref 1), (1, .int m), (2, .int a)] [.ref 76] (g_X0_go c b 21 m (g_X7_copy 21 1 S)) R _
                        refine u_getE (v := (g_X0_go c b 21 m (g_X7_copy 21 1 S)) 75 7) rfl rfl rfl rfl ?_
                        show u_P L xs n d m_X11_tried 175 [(0, .ref 1), (1, .int m), (2, .int a)] [.int ((g_X0_go c b 21 m (g_X7_copy 21 1 S)) 75 7)] (g_X0_go c b 21 m (g_X7_copy 21 1 S)) R _
                        exact u_ret rfl rfl ⟨_, rfl, rfl, by rw [f_X11_tried, if_neg h1, if_neg h2, if_neg h3, if_pos h7, if_neg h8_0, if_neg h8_1, if_neg h8_2, if_neg h8_3, if_neg h8_4, if_neg h8_5, if_pos h8_6], by rw [g_X11_tried, if_neg h1, if_neg h2, if_neg h3, if_pos h7]⟩
                      · refine u_jm (t := 176) (sc1 := []) rfl rfl rfl (by rw [g_jmp]; rw [if_pos (by have := z_ne h8_0; have := z_ne h8_1; have := z_ne h8_2; have := z_ne h8_3; have := z_ne h8_4; have := z_ne h8_5; have := z_ne h8_6; omega)]; rfl) ?_
                        show u_P L xs n d m_X11_tried 176 [(0, .ref 1), (1, .int m), (2, .int a)] [] (g_X0_go c b 21 m (g_X7_copy 21 1 S)) R _
                        refine u_st rfl (fun _ => rfl) ?_
                        show u_P L xs n d m_X11_tried 177 [(0, .ref 1), (1, .int m), (2, .int a)] [.ref 1] (g_X0_go c b 21 m (g_X7_copy 21 1 S)) R _
                        refine u_getr rfl v_tyC rfl ?_
                        refine u_st rfl (fun _ => rfl) ?_
                        refine u_st rfl (fun _ => rfl) ?_
                        refine u_st rfl (fun _ => rfl) ?_
                        show u_P L xs n d m_X11_tried 184 [(0, .ref 1), (1, .int m), (2, .int a)] [.int (a - (Int32.ofInt 10)), .ref 22] (g_X0_go c b 21 m (g_X7_copy 21 1 S)) R _
                        refine u_cv (rest := []) rfl (by decide) mt_X7_hasGust rfl rfl rfl rfl (Nat.le_of_ble_eq_true rfl) (Nat.le_of_ble_eq_true rfl) (Nat.le_of_ble_eq_true rfl) (fun d' => c_X7_hasGust L xs n d' 21 (Or.inr (Or.inr rfl)) (a - (Int32.ofInt 10)) (g_X0_go c b 21 m (g_X7_copy 21 1 S)) R) ?_
                        rintro _ _ _ ⟨_, rfl, rfl, rfl, rfl⟩
                        show u_P L xs n d m_X11_tried 187 [(0, .ref 1), (1, .int m), (2, .int a)] [.int (f_X7_hasGust 21 (a - (Int32.ofInt 10)) (g_X0_go c b 21 m (g_X7_copy 21 1 S)))] (g_X0_go c b 21 m (g_X7_copy 21 1 S)) R _
                        refine u_if_eq rfl (fun h9 => ?_) (fun h9 => ?_)
                        · show u_P L xs n d m_X11_tried 205 [(0, .ref 1), (1, .int m), (2, .int a)] [] (g_X0_go c b 21 m (g_X7_copy 21 1 S)) R _
                          refine u_st rfl (fun _ => rfl) ?_
                          show u_P L xs n d m_X11_tried 206 [(0, .ref 1), (1, .int m), (2, .int a)] [.int (Int32.ofInt (-1))] (g_X0_go c b 21 m (g_X7_copy 21 1 S)) R _
                          exact u_ret rfl rfl ⟨_, rfl, rfl, by rw [f_X11_tried, if_neg h1, if_neg h2, if_neg h3, if_pos h7, if_neg h8_0, if_neg h8_1, if_neg h8_2, if_neg h8_3, if_neg h8_4, if_neg h8_5, if_neg h8_6, if_pos h9], by rw [g_X11_tried, if_neg h1, if_neg h2, if_neg h3, if_pos h7]⟩
                        · show u_P L xs n d m_X11_tried 190 [(0, .ref 1), (1, .int m), (2, .int a)] [] (g_X0_go c b 21 m (g_X7_copy 21 1 S)) R _
                          refine u_st rfl (fun _ => rfl) ?_
                          show u_P L xs n d m_X11_tried 191 [(0, .ref 1), (1, .int m), (2, .int a)] [.ref 1] (g_X0_go c b 21 m (g_X7_copy 21 1 S)) R _
                          refine u_getr rfl v_tyC rfl ?_
                          show u_P L xs n d m_X11_tried 194 [(0, .ref 1), (1, .int m), (2, .int a)] [.ref 22] (g_X0_go c b 21 m (g_X7_copy 21 1 S)) R _
                          refine u_getr rfl rfl rfl ?_
                          refine u_st rfl (fun _ => rfl) ?_
                          refine u_st rfl (fun _ => rfl) ?_
                          refine u_st rfl (fun _ => rfl) ?_
                          show u_P L xs n d m_X11_tried 201 [(0, .ref 1), (1, .int m), (2, .int a)] [.int (a - (Int32.ofInt 10)), .ref 23] (g_X0_go c b 21 m (g_X7_copy 21 1 S)) R _
                          refine u_ialdE (v := (g_X0_go c b 21 m (g_X7_copy 21 1 S)) 22 ((a - (Int32.ofInt 10)).toInt.toNat)) rfl rfl rfl (fun b101 b102 => ?_)
                          refine u_st rfl (fun _ => rfl) ?_
                          show u_P L xs n d m_X11_tried 206 [(0, .ref 1), (1, .int m), (2, .int a)] [.int ((g_X0_go c b 21 m (g_X7_copy 21 1 S)) 22 ((a - (Int32.ofInt 10)).toInt.toNat))] (g_X0_go c b 21 m (g_X7_copy 21 1 S)) R _
                          exact u_ret rfl rfl ⟨_, rfl, rfl, by rw [f_X11_tried, if_neg h1, if_neg h2, if_neg h3, if_pos h7, if_neg h8_0, if_neg h8_1, if_neg h8_2, if_neg h8_3, if_neg h8_4, if_neg h8_5, if_neg h8_6, if_neg h9], by rw [g_X11_tried, if_neg h1, if_neg h2, if_neg h3, if_pos h7]⟩
        · show u_P L xs n d m_X11_tried 34 [(0, .ref 1), (1, .int m), (2, .int a)] [] S R _
          refine u_st rfl (fun _ => rfl) ?_
          show u_P L xs n d m_X11_tried 35 [(0, .ref 1), (1, .int m), (2, .int a)] [.int (Int32.ofInt (-1))] S R _
          exact u_ret rfl rfl ⟨_, rfl, rfl, by rw [f_X11_tried, if_neg h1, if_neg h2, if_neg h3, if_neg h7], by rw [g_X11_tried, if_neg h1, if_neg h2, if_neg h3, if_neg h7]⟩
noncomputable abbrev m_X11_quarrel : g_M := (g_cn 11, yX11_quarrel, cX11_quarrel, 3, (some .int), g_look2 ttX11_quarrel)
set_option maxRecDepth 20000 in
theorem mt_X11_quarrel : g_mt 131 = some m_X11_quarrel := rfl
noncomputable abbrev m_X11_wardIs : g_M := (g_cn 11, yX11_wardIs, cX11_wardIs, 4, (some .int), g_look2 ttX11_wardIs)
set_option maxRecDepth 20000 in
theorem mt_X11_wardIs : g_mt 129 = some m_X11_wardIs := rfl
noncomputable abbrev m_X11_count : g_M := (g_cn 11, yX11_count, cX11_count, 2, (some .int), g_look2 ttX11_count)
set_option maxRecDepth 20000 in
theorem mt_X11_count : g_mt 132 = some m_X11_count := rfl
noncomputable abbrev m_X11_added : g_M := (g_cn 11, yX11_added, cX11_added, 6, (some .int), g_look2 ttX11_added)
set_option maxRecDepth 20000 in
theorem mt_X11_added : g_mt 133 = some m_X11_added := rfl
noncomputable abbrev m_X12_quarrel : g_M := (g_cn 12, yX12_quarrel, cX12_quarrel, 3, (some .int), g_look2 ttX12_quarrel)
set_option maxRecDepth 20000 in
theorem mt_X12_quarrel : g_mt 248 = some m_X12_quarrel := rfl
noncomputable abbrev m_X12_count : g_M := (g_cn 12, yX12_count, cX12_count, 2, (some .int), g_look2 ttX12_count)
set_option maxRecDepth 20000 in
theorem mt_X12_count : g_mt 298 = some m_X12_count := rfl
end PrtS42v
section PrtS42wa
noncomputable abbrev m_X2_higher : g_M := (g_cn 2, yX2_higher, cX2_higher, 3, (some .boolean), g_look2 ttX2_higher)
set_option maxRecDepth 20000 in
theorem mt_X2_higher : g_mt 28 = some m_X2_higher := rfl
noncomputable def f_X2_higher (a : Int32) (b : Int32) (S : v_Sf) : Int32 := (if a < 0 then (if 0 ≤ b then Int32.ofInt 0 else Int32.ofInt 1) else (if b < 0 then (if 0 ≤ b then Int32.ofInt 0 else Int32.ofInt 1) else (if (Int32.ofInt 5) ≤ a then (if 0 ≤ b then Int32.ofInt 0 else Int32.ofInt 1) else (if b < (Int32.ofInt 5) then (if (S 95 b.toInt.toNat) < (S 95 a.toInt.toNat) then Int32.ofInt 1 else (if ¬ (S 95 a.toInt.toNat) = (S 95 b.toInt.toNat) then Int32.ofInt 0 else (if b ≤ a then Int32.ofInt 0 else Int32.ofInt 1))) else (if 0 ≤ b then Int32.ofInt 0 else Int32.ofInt 1)))))
set_option maxRecDepth 4000 in
theorem c_X2_higher (L : Nat) (xs : Nat → Int32) (n d : Nat) (a : Int32) (b : Int32) (S : v_Sf) (R : v_Rf) : u_P L xs n d m_X2_higher 0 (lv_args 0 [.ref 95, .int a, .int b]) [] S R (z_Q R (fun v S1 => f_X2_higher a b S = v ∧ S = S1)) := by
  show u_P L xs n d m_X2_higher 0 [(0, .ref 95), (1, .int a), (2, .int b)] [] S R _
  refine u_st rfl (fun _ => rfl) ?_
  show u_P L xs n d m_X2_higher 1 [(0, .ref 95), (1, .int a), (2, .int b)] [.int a] S R _
  refine u_if_lt rfl (fun h1 => ?_) (fun h1 => ?_)
  · show u_P L xs n d m_X2_higher 18 [(0, .ref 95), (1, .int a), (2, .int b)] [] S R _
    refine u_st rfl (fun _ => rfl) ?_
    show u_P L xs n d m_X2_higher 19 [(0, .ref 95), (1, .int a), (2, .int b)] [.int b] S R _
    refine u_if_ge rfl (fun h2 => ?_) (fun h2 => ?_)
    · show u_P L xs n d m_X2_higher 26 [(0, .ref 95), (1, .int a), (2, .int b)] [] S R _
      refine u_st rfl (fun _ => rfl) ?_
      show u_P L xs n d m_X2_higher 27 [(0, .ref 95), (1, .int a), (2, .int b)] [.int (Int32.ofInt 0)] S R _
      exact u_retb rfl rfl ⟨_, rfl, rfl, by rw [f_X2_higher, if_pos h1, if_pos h2], rfl⟩
    · show u_P L xs n d m_X2_higher 22 [(0, .ref 95), (1, .int a), (2, .int b)] [] S R _
      refine u_st rfl (fun _ => rfl) ?_
      refine u_st rfl (fun _ => rfl) ?_
      show u_P L xs n d m_X2_higher 27 [(0, .ref 95), (1, .int a), (2, .int b)] [.int (Int32.ofInt 1)] S R _
      exact u_retb rfl rfl ⟨_, rfl, rfl, by rw [f_X2_higher, if_pos h1, if_neg h2], rfl⟩
  · show u_P L xs n d m_X2_higher 4 [(0, .ref 95), (1, .int a), (2, .int b)] [] S R _
    refine u_st rfl (fun _ => rfl) ?_
    show u_P L xs n d m_X2_higher 5 [(0, .ref 95), (1, .int a), (2, .int b)] [.int b] S R _
    refine u_if_lt rfl (fun h3 => ?_) (fun h3 => ?_)
    · show u_P L xs n d m_X2_higher 18 [(0, .ref 95), (1, .int a), (2, .int b)] [] S R _
      refine u_st rfl (fun _ => rfl) ?_
      show u_P L xs n d m_X2_higher 19 [(0, .ref 95), (1, .int a), (2, .int b)] [.int b] S R _
      refine u_if_ge rfl (fun h4 => ?_) (fun h4 => ?_)
      · show u_P L xs n d m_X2_higher 26 [(0, .ref 95), (1, .int a), (2, .int b)] [] S R _
        refine u_st rfl (fun _ => rfl) ?_
        show u_P L xs n d m_X2_higher 27 [(0, .ref 95), (1, .int a), (2, .int b)] [.int (Int32.ofInt 0)] S R _
        exact u_retb rfl rfl ⟨_, rfl, rfl, by rw [f_X2_higher, if_neg h1, if_pos h3, if_pos h4], rfl⟩
      · show u_P L xs n d m_X2_higher 22 [(0, .ref 95), (1, .int a), (2, .int b)] [] S R _
        refine u_st rfl (fun _ => rfl) ?_
        refine u_st rfl (fun _ => rfl) ?_
        show u_P L xs n d m_X2_higher 27 [(0, .ref 95), (1, .int a), (2, .int b)] [.int (Int32.ofInt 1)] S R _
        exact u_retb rfl rfl ⟨_, rfl, rfl, by rw [f_X2_higher, if_neg h1, if_pos h3, if_neg h4], rfl⟩
    · show u_P L xs n d m_X2_higher 8 [(0, .ref 95), (1, .int a), (2, .int b)] [] S R _
      refine u_st rfl (fun _ => rfl) ?_
      refine u_st rfl (fun _ => rfl) ?_
      show u_P L xs n d m_X2_higher 10 [(0, .ref 95), (1, .int a), (2, .int b)] [.int (Int32.ofInt 5), .int a] S R _
      refine u_ic_ge rfl (fun h5 => ?_) (fun h5 => ?_)
      · show u_P L xs n d m_X2_higher 18 [(0, .ref 95), (1, .int a), (2, .int b)] [] S R _
        refine u_st rfl (fun _ => rfl) ?_
        show u_P L xs n d m_X2_higher 19 [(0, .ref 95), (1, .int a), (2, .int b)] [.int b] S R _
        refine u_if_ge rfl (fun h6 => ?_) (fun h6 => ?_)
        · show u_P L xs n d m_X2_higher 26 [(0, .ref 95), (1, .int a), (2, .int b)] [] S R _
          refine u_st rfl (fun _ => rfl) ?_
          show u_P L xs n d m_X2_higher 27 [(0, .ref 95), (1, .int a), (2, .int b)] [.int (Int32.ofInt 0)] S R _
          exact u_retb rfl rfl ⟨_, rfl, rfl, by rw [f_X2_higher, if_neg h1, if_neg h3, if_pos h5, if_pos h6], rfl⟩
        · show u_P L xs n d m_X2_higher 22 [(0, .ref 95), (1, .int a), (2, .int b)] [] S R _
          refine u_st rfl (fun _ => rfl) ?_
          refine u_st rfl (fun _ => rfl) ?_
          show u_P L xs n d m_X2_higher 27 [(0, .ref 95), (1, .int a), (2, .int b)] [.int (Int32.ofInt 1)] S R _
          exact u_retb rfl rfl ⟨_, rfl, rfl, by rw [f_X2_higher, if_neg h1, if_neg h3, if_pos h5, if_neg h6], rfl⟩
      · show u_P L xs n d m_X2_higher 13 [(0, .ref 95), (1, .int a), (2, .int b)] [] S R _
        refine u_st rfl (fun _ => rfl) ?_
        refine u_st rfl (fun _ => rfl) ?_
        show u_P L xs n d m_X2_higher 15 [(0, .ref 95), (1, .int a), (2, .int b)] [.int (Int32.ofInt 5), .int b] S R _
        refine u_ic_lt rfl (fun h7 => ?_) (fun h7 => ?_)
        · show u_P L xs n d m_X2_higher 28 [(0, .ref 95), (1, .int a), (2, .int b)] [] S R _
          refine u_st rfl (fun _ => rfl) ?_
          show u_P L xs n d m_X2_higher 29 [(0, .ref 95), (1, .int a), (2, .int b)] [.ref 95] S R _
          refine u_getr rfl rfl rfl ?_
          refine u_st rfl (fun _ => rfl) ?_
          show u_P L xs n d m_X2_higher 33 [(0, .ref 95), (1, .int a), (2, .int b)] [.int a, .ref 96] S R _
          refine u_ialdE (v := S 95 a.toInt.toNat) rfl rfl rfl (fun b81 b82 => ?_)
          refine u_st rfl (fun _ => rfl) ?_
          show u_P L xs n d m_X2_higher 35 [(0, .ref 95), (1, .int a), (2, .int b)] [.ref 95, .int (S 95 a.toInt.toNat)] S R _
          refine u_getr rfl rfl rfl ?_
          refine u_st rfl (fun _ => rfl) ?_
          show u_P L xs n d m_X2_higher 39 [(0, .ref 95), (1, .int a), (2, .int b)] [.int b, .ref 96, .int (S 95 a.toInt.toNat)] S R _
          refine u_ialdE (v := S 95 b.toInt.toNat) rfl rfl rfl (fun b91 b92 => ?_)
          show u_P L xs n d m_X2_higher 40 [(0, .ref 95), (1, .int a), (2, .int b)] [.int (S 95 b.toInt.toNat), .int (S 95 a.toInt.toNat)] S R _
          refine u_ic_gt rfl (fun h10 => ?_) (fun h10 => ?_)
          · show u_P L xs n d m_X2_higher 63 [(0, .ref 95), (1, .int a), (2, .int b)] [] S R _
            refine u_st rfl (fun _ => rfl) ?_
            refine u_st rfl (fun _ => rfl) ?_
            show u_P L xs n d m_X2_higher 68 [(0, .ref 95), (1, .int a), (2, .int b)] [.int (Int32.ofInt 1)] S R _
            exact u_retb rfl rfl ⟨_, rfl, rfl, by rw [f_X2_higher, if_neg h1, if_neg h3, if_neg h5, if_pos h7, if_pos h10], rfl⟩
          · show u_P L xs n d m_X2_higher 43 [(0, .ref 95), (1, .int a), (2, .int b)] [] S R _
            refine u_st rfl (fun _ => rfl) ?_
            show u_P L xs n d m_X2_higher 44 [(0, .ref 95), (1, .int a), (2, .int b)] [.ref 95] S R _
            refine u_getr rfl rfl rfl ?_
            refine u_st rfl (fun _ => rfl) ?_
            show u_P L xs n d m_X2_higher 48 [(0, .ref 95), (1, .int a), (2, .int b)] [.int a, .ref 96] S R _
            refine u_ialdE (v := S 95 a.toInt.toNat) rfl rfl rfl (fun b111 b112 => ?_)
            refine u_st rfl (fun _ => rfl) ?_
            show u_P L xs n d m_X2_higher 50 [(0, .ref 95), (1, .int a), (2, .int b)] [.ref 95, .int (S 95 a.toInt.toNat)] S R _
            refine u_getr rfl rfl rfl ?_
            refine u_st rfl (fun _ => rfl) ?_
            show u_P L xs n d m_X2_higher 54 [(0, .ref 95), (1, .int a), (2, .int b)] [.int b, .ref 96, .int (S 95 a.toInt.toNat)] S R _
            refine u_ialdE (v := S 95 b.toInt.toNat) rfl rfl rfl (fun b121 b122 => ?_)
            show u_P L xs n d m_X2_higher 55 [(0, .ref 95), (1, .int a), (2, .int b)] [.int (S 95 b.toInt.toNat), .int (S 95 a.toInt.toNat)] S R _
            refine u_ic_ne rfl (fun h13 => ?_) (fun h13 => ?_)
            · show u_P L xs n d m_X2_higher 67 [(0, .ref 95), (1, .int a), (2, .int b)] [] S R _
              refine u_st rfl (fun _ => rfl) ?_
              show u_P L xs n d m_X2_higher 68 [(0, .ref 95), (1, .int a), (2, .int b)] [.int (Int32.ofInt 0)] S R _
              exact u_retb rfl rfl ⟨_, rfl, rfl, by rw [f_X2_higher, if_neg h1, if_neg h3, if_neg h5, if_pos h7, if_neg h10, if_pos h13], rfl⟩
            · show u_P L xs n d m_X2_higher 58 [(0, .ref 95), (1, .int a), (2, .int b)] [] S R _
              refine u_st rfl (fun _ => rfl) ?_
              refine u_st rfl (fun _ => rfl) ?_
              show u_P L xs n d m_X2_higher 60 [(0, .ref 95), (1, .int a), (2, .int b)] [.int b, .int a] S R _
              refine u_ic_ge rfl (fun h14 => ?_) (fun h14 => ?_)
              · show u_P L xs n d m_X2_higher 67 [(0, .ref 95), (1, .int a), (2, .int b)] [] S R _
                refine u_st rfl (fun _ => rfl) ?_
                show u_P L xs n d m_X2_higher 68 [(0, .ref 95), (1, .int a), (2, .int b)] [.int (Int32.ofInt 0)] S R _
                exact u_retb rfl rfl ⟨_, rfl, rfl, by rw [f_X2_higher, if_neg h1, if_neg h3, if_neg h5, if_pos h7, if_neg h10, if_neg h13, if_pos h14], rfl⟩
              · show u_P L xs n d m_X2_higher 63 [(0, .ref 95), (1, .int a), (2, .int b)] [] S R _
                refine u_st rfl (fun _ => rfl) ?_
                refine u_st rfl (fun _ => rfl) ?_
                show u_P L xs n d m_X2_higher 68 [(0, .ref 95), (1, .int a), (2, .int b)] [.int (Int32.ofInt 1)] S R _
                exact u_retb rfl rfl ⟨_, rfl, rfl, by rw [f_X2_higher, if_neg h1, if_neg h3, if_neg h5, if_pos h7, if_neg h10, if_neg h13, if_neg h14], rfl⟩
        · show u_P L xs n d m_X2_higher 18 [(0, .ref 95), (1, .int a), (2, .int b)] [] S R _
          refine u_st rfl (fun _ => rfl) ?_
          show u_P L xs n d m_X2_higher 19 [(0, .ref 95), (1, .int a), (2, .int b)] [.int b] S R _
          refine u_if_ge rfl (fun h15 => ?_) (fun h15 => ?_)
          · show u_P L xs n d m_X2_higher 26 [(0, .ref 95), (1, .int a), (2, .int b)] [] S R _
            refine u_st rfl (fun _ => rfl) ?_
            show u_P L xs n d m_X2_higher 27 [(0, .ref 95), (1, .int a), (2, .int b)] [.int (Int32.ofInt 0)] S R _
            exact u_retb rfl rfl ⟨_, rfl, rfl, by rw [f_X2_higher, if_neg h1, if_neg h3, if_neg h5, if_neg h7, if_pos h15], rfl⟩
          · show u_P L xs n d m_X2_higher 22 [(0, .ref 95), (1, .int a), (2, .int b)] [] S R _
            refine u_st rfl (fun _ => rfl) ?_
            refine u_st rfl (fun _ => rfl) ?_
            show u_P L xs n d m_X2_higher 27 [(0, .ref 95), (1, .int a), (2, .int b)] [.int (Int32.ofInt 1)] S R _
            exact u_retb rfl rfl ⟨_, rfl, rfl, by rw [f_X2_higher, if_neg h1, if_neg h3, if_neg h5, if_neg h7, if_neg h15], rfl⟩
noncomputable abbrev m_X2_dearer : g_M := (g_cn 2, yX2_dearer, cX2_dearer, 7, (some .boolean), g_look2 ttX2_dearer)
set_option maxRecDepth 20000 in
theorem mt_X2_dearer : g_mt 29 = some m_X2_dearer := rfl
noncomputable def f_X2_dearer (a : Int32) (b : Int32) (i : Int32) (S : v_Sf) : Int32 := (if a < 0 then (if 0 ≤ i then Int32.ofInt 0 else Int32.ofInt 1) else (if (Int32.ofInt 5) ≤ a then (if 0 ≤ i then Int32.ofInt 0 else Int32.ofInt 1) else (if (f_X7_hasGust 1 b S) = 0 then (if 0 ≤ i then Int32.ofInt 0 else Int32.ofInt 1) else (if ¬ (f_X7_hasGust 1 i S) = 0 then (if ((f_J6_bitCount_0f7a4 ((S 7 b.toInt.toNat) &&& (S 96 a.toInt.toNat))) - (f_J6_bitCount_0f7a4 ((S 7 i.toInt.toNat) &&& (S 96 a.toInt.toNat)))) = 0 then (if 0 < ((S 2 b.toInt.toNat) - (S 2 i.toInt.toNat)) then Int32.ofInt 1 else (if ¬ ((S 2 b.toInt.toNat) - (S 2 i.toInt.toNat)) = 0 then Int32.ofInt 0 else (if i ≤ b then Int32.ofInt 0 else Int32.ofInt 1))) else (if ((f_J6_bitCount_0f7a4 ((S 7 b.toInt.toNat) &&& (S 96 a.toInt.toNat))) - (f_J6_bitCount_0f7a4 ((S 7 i.toInt.toNat) &&& (S 96 a.toInt.toNat)))) ≤ 0 then Int32.ofInt 0 else Int32.ofInt 1)) else (if 0 ≤ i then Int32.ofInt 0 else Int32.ofInt 1)))))
set_option maxRecDepth 4000 in
theorem c_X2_dearer (L : Nat) (xs : Nat → Int32) (n d : Nat) (a : Int32) (b : Int32) (i : Int32) (S : v_Sf) (R : v_Rf) : u_P L xs n d m_X2_dearer 0 (lv_args 0 [.ref 95, .ref 2, .int a, .int b, .int i]) [] S R (z_Q R (fun v S1 => f_X2_dearer a b i S = v ∧ S = S1)) := by
  show u_P L xs n d m_X2_dearer 0 [(0, .ref 95), (1, .ref 2), (2, .int a), (3, .int b), (4, .int i)] [] S R _
  refine u_st rfl (fun _ => rfl) ?_
  show u_P L xs n d m_X2_dearer 1 [(0, .ref 95), (1, .ref 2), (2, .int a), (3, .int b), (4, .int i)] [.int a] S R _
  refine u_if_lt rfl (fun h1 => ?_) (fun h1 => ?_)
  · show u_P L xs n d m_X2_dearer 26 [(0, .ref 95), (1, .ref 2), (2, .int a), (3, .int b), (4, .int i)] [] S R _
    refine u_st rfl (fun _ => rfl) ?_
    show u_P L xs n d m_X2_dearer 28 [(0, .ref 95), (1, .ref 2), (2, .int a), (3, .int b), (4, .int i)] [.int i] S R _
    refine u_if_ge rfl (fun h2 => ?_) (fun h2 => ?_)
    · show u_P L xs n d m_X2_dearer 35 [(0, .ref 95), (1, .ref 2), (2, .int a), (3, .int b), (4, .int i)] [] S R _
      refine u_st rfl (fun _ => rfl) ?_
      show u_P L xs n d m_X2_dearer 36 [(0, .ref 95), (1, .ref 2), (2, .int a), (3, .int b), (4, .int i)] [.int (Int32.ofInt 0)] S R _
      exact u_retb rfl rfl ⟨_, rfl, rfl, by rw [f_X2_dearer, if_pos h1, if_pos h2], rfl⟩
    · show u_P L xs n d m_X2_dearer 31 [(0, .ref 95), (1, .ref 2), (2, .int a), (3, .int b), (4, .int i)] [] S R _
      refine u_st rfl (fun _ => rfl) ?_
      refine u_st rfl (fun _ => rfl) ?_
      show u_P L xs n d m_X2_dearer 36 [(0, .ref 95), (1, .ref 2), (2, .int a), (3, .int b), (4, .int i)] [.int (Int32.ofInt 1)] S R _
      exact u_retb rfl rfl ⟨_, rfl, rfl, by rw [f_X2_dearer, if_pos h1, if_neg h2], rfl⟩
  · show u_P L xs n d m_X2_dearer 4 [(0, .ref 95), (1, .ref 2), (2, .int a), (3, .int b), (4, .int i)] [] S R _
    refine u_st rfl (fun _ => rfl) ?_
    refine u_st rfl (fun _ => rfl) ?_
    show u_P L xs n d m_X2_dearer 6 [(0, .ref 95), (1, .ref 2), (2, .int a), (3, .int b), (4, .int i)] [.int (Int32.ofInt 5), .int a] S R _
    refine u_ic_ge rfl (fun h3 => ?_) (fun h3 => ?_)
    · show u_P L xs n d m_X2_dearer 26 [(0, .ref 95), (1, .ref 2), (2, .int a), (3, .int b), (4, .int i)] [] S R _
      refine u_st rfl (fun _ => rfl) ?_
      show u_P L xs n d m_X2_dearer 28 [(0, .ref 95), (1, .ref 2), (2, .int a), (3, .int b), (4, .int i)] [.int i] S R _
      refine u_if_ge rfl (fun h4 => ?_) (fun h4 => ?_)
      · show u_P L xs n d m_X2_dearer 35 [(0, .ref 95), (1, .ref 2), (2, .int a), (3, .int b), (4, .int i)] [] S R _
        refine u_st rfl (fun _ => rfl) ?_
        show u_P L xs n d m_X2_dearer 36 [(0, .ref 95), (1, .ref 2), (2, .int a), (3, .int b), (4, .int i)] [.int (Int32.ofInt 0)] S R _
        exact u_retb rfl rfl ⟨_, rfl, rfl, by rw [f_X2_dearer, if_neg h1, if_pos h3, if_pos h4], rfl⟩
      · show u_P L xs n d m_X2_dearer 31 [(0, .ref 95), (1, .ref 2), (2, .int a), (3, .int b), (4, .int i)] [] S R _
        refine u_st rfl (fun _ => rfl) ?_
        refine u_st rfl (fun _ => rfl) ?_
        show u_P L xs n d m_X2_dearer 36 [(0, .ref 95), (1, .ref 2), (2, .int a), (3, .int b), (4, .int i)] [.int (Int32.ofInt 1)] S R _
        exact u_retb rfl rfl ⟨_, rfl, rfl, by rw [f_X2_dearer, if_neg h1, if_pos h3, if_neg h4], rfl⟩
    · show u_P L xs n d m_X2_dearer 9 [(0, .ref 95), (1, .ref 2), (2, .int a), (3, .int b), (4, .int i)] [] S R _
      refine u_st rfl (fun _ => rfl) ?_
      refine u_st rfl (fun _ => rfl) ?_
      show u_P L xs n d m_X2_dearer 11 [(0, .ref 95), (1, .ref 2), (2, .int a), (3, .int b), (4, .int i)] [.int b, .ref 2] S R _
      refine u_cv (rest := []) rfl (by decide) mt_X7_hasGust rfl rfl rfl rfl (Nat.le_of_ble_eq_true rfl) (Nat.le_of_ble_eq_true rfl) (Nat.le_of_ble_eq_true rfl) (fun d' => c_X7_hasGust L xs n d' 1 (Or.inl rfl) b S R) ?_
      rintro _ _ _ ⟨_, rfl, rfl, rfl, rfl⟩
      show u_P L xs n d m_X2_dearer 14 [(0, .ref 95), (1, .ref 2), (2, .int a), (3, .int b), (4, .int i)] [.int (f_X7_hasGust 1 b S)] S R _
      refine u_if_eq rfl (fun h5 => ?_) (fun h5 => ?_)
      · show u_P L xs n d m_X2_dearer 26 [(0, .ref 95), (1, .ref 2), (2, .int a), (3, .int b), (4, .int i)] [] S R _
        refine u_st rfl (fun _ => rfl) ?_
        show u_P L xs n d m_X2_dearer 28 [(0, .ref 95), (1, .ref 2), (2, .int a), (3, .int b), (4, .int i)] [.int i] S R _
        refine u_if_ge rfl (fun h6 => ?_) (fun h6 => ?_)
        · show u_P L xs n d m_X2_dearer 35 [(0, .ref 95), (1, .ref 2), (2, .int a), (3, .int b), (4, .int i)] [] S R _
          refine u_st rfl (fun _ => rfl) ?_
          show u_P L xs n d m_X2_dearer 36 [(0, .ref 95), (1, .ref 2), (2, .int a), (3, .int b), (4, .int i)] [.int (Int32.ofInt 0)] S R _
          exact u_retb rfl rfl ⟨_, rfl, rfl, by rw [f_X2_dearer, if_neg h1, if_neg h3, if_pos h5, if_pos h6], rfl⟩
        · show u_P L xs n d m_X2_dearer 31 [(0, .ref 95), (1, .ref 2), (2, .int a), (3, .int b), (4, .int i)] [] S R _
          refine u_st rfl (fun _ => rfl) ?_
          refine u_st rfl (fun _ => rfl) ?_
          show u_P L xs n d m_X2_dearer 36 [(0, .ref 95), (1, .ref 2), (2, .int a), (3, .int b), (4, .int i)] [.int (Int32.ofInt 1)] S R _
          exact u_retb rfl rfl ⟨_, rfl, rfl, by rw [f_X2_dearer, if_neg h1, if_neg h3, if_pos h5, if_neg h6], rfl⟩
      · show u_P L xs n d m_X2_dearer 17 [(0, .ref 95), (1, .ref 2), (2, .int a), (3, .int b), (4, .int i)] [] S R _
        refine u_st rfl (fun _ => rfl) ?_
        refine u_st rfl (fun _ => rfl) ?_
        show u_P L xs n d m_X2_dearer 20 [(0, .ref 95), (1, .ref 2), (2, .int a), (3, .int b), (4, .int i)] [.int i, .ref 2] S R _
        refine u_cv (rest := []) rfl (by decide) mt_X7_hasGust rfl rfl rfl rfl (Nat.le_of_ble_eq_true rfl) (Nat.le_of_ble_eq_true rfl) (Nat.le_of_ble_eq_true rfl) (fun d' => c_X7_hasGust L xs n d' 1 (Or.inl rfl) i S R) ?_
        rintro _ _ _ ⟨_, rfl, rfl, rfl, rfl⟩
        show u_P L xs n d m_X2_dearer 23 [(0, .ref 95), (1, .ref 2), (2, .int a), (3, .int b), (4, .int i)] [.int (f_X7_hasGust 1 i S)] S R _
        refine u_if_ne rfl (fun h7 => ?_) (fun h7 => ?_)
        · show u_P L xs n d m_X2_dearer 37 [(0, .ref 95), (1, .ref 2), (2, .int a), (3, .int b), (4, .int i)] [] S R _
          refine u_st rfl (fun _ => rfl) ?_
          show u_P L xs n d m_X2_dearer 38 [(0, .ref 95), (1, .ref 2), (2, .int a), (3, .int b), (4, .int i)] [.ref 2] S R _
          refine u_getr rfl rfl rfl ?_
          refine u_st rfl (fun _ => rfl) ?_
          show u_P L xs n d m_X2_dearer 42 [(0, .ref 95), (1, .ref 2), (2, .int a), (3, .int b), (4, .int i)] [.int b, .ref 8] S R _
          refine u_ialdE (v := S 7 b.toInt.toNat) rfl rfl rfl (fun b81 b82 => ?_)
          refine u_st rfl (fun _ => rfl) ?_
          show u_P L xs n d m_X2_dearer 44 [(0, .ref 95), (1, .ref 2), (2, .int a), (3, .int b), (4, .int i)] [.ref 95, .int (S 7 b.toInt.toNat)] S R _
          refine u_getr rfl rfl rfl ?_
          refine u_st rfl (fun _ => rfl) ?_
          show u_P L xs n d m_X2_dearer 48 [(0, .ref 95), (1, .ref 2), (2, .int a), (3, .int b), (4, .int i)] [.int a, .ref 97, .int (S 7 b.toInt.toNat)] S R _
          refine u_ialdE (v := S 96 a.toInt.toNat) rfl rfl rfl (fun b91 b92 => ?_)
          refine u_st rfl (fun _ => rfl) ?_
          show u_P L xs n d m_X2_dearer 50 [(0, .ref 95), (1, .ref 2), (2, .int a), (3, .int b), (4, .int i)] [.int ((S 7 b.toInt.toNat) &&& (S 96 a.toInt.toNat))] S R _
          refine u_cs (ac := [.int ((S 7 b.toInt.toNat) &&& (S 96 a.toInt.toNat))]) (rest := []) rfl (by decide) mt_J6_bitCount_0f7a4 (fun _ => rfl) (Nat.le_of_ble_eq_true rfl) (Nat.le_of_ble_eq_true rfl) (fun d' => c_J6_bitCount_0f7a4 L xs n d' ((S 7 b.toInt.toNat) &&& (S 96 a.toInt.toNat)) S R) ?_
          rintro _ _ _ ⟨_, rfl, rfl, rfl, rfl⟩
          refine u_st rfl (fun _ => rfl) ?_
          show u_P L xs n d m_X2_dearer 54 [(0, .ref 95), (1, .ref 2), (2, .int a), (3, .int b), (4, .int i)] [.ref 2, .int (f_J6_bitCount_0f7a4 ((S 7 b.toInt.toNat) &&& (S 96 a.toInt.toNat)))] S R _
          refine u_getr rfl rfl rfl ?_
          refine u_st rfl (fun _ => rfl) ?_
          show u_P L xs n d m_X2_dearer 59 [(0, .ref 95), (1, .ref 2), (2, .int a), (3, .int b), (4, .int i)] [.int i, .ref 8, .int (f_J6_bitCount_0f7a4 ((S 7 b.toInt.toNat) &&& (S 96 a.toInt.toNat)))] S R _
          refine u_ialdE (v := S 7 i.toInt.toNat) rfl rfl rfl (fun b101 b102 => ?_)
          refine u_st rfl (fun _ => rfl) ?_
          show u_P L xs n d m_X2_dearer 61 [(0, .ref 95), (1, .ref 2), (2, .int a), (3, .int b), (4, .int i)] [.ref 95, .int (S 7 i.toInt.toNat), .int (f_J6_bitCount_0f7a4 ((S 7 b.toInt.toNat) &&& (S 96 a.toInt.toNat)))] S R _
          refine u_getr rfl rfl rfl ?_
          refine u_st rfl (fun _ => rfl) ?_
          show u_P L xs n d m_X2_dearer 65 [(0, .ref 95), (1, .ref 2), (2, .int a), (3, .int b), (4, .int i)] [.int a, .ref 97, .int (S 7 i.toInt.toNat), .int (f_J6_bitCount_0f7a4 ((S 7 b.toInt.toNat) &&& (S 96 a.toInt.toNat)))] S R _
          refine u_ialdE (v := S 96 a.toInt.toNat) rfl rfl rfl (fun b111 b112 => ?_)
          refine u_st rfl (fun _ => rfl) ?_
          show u_P L xs n d m_X2_dearer 67 [(0, .ref 95), (1, .ref 2), (2, .int a), (3, .int b), (4, .int i)] [.int ((S 7 i.toInt.toNat) &&& (S 96 a.toInt.toNat)), .int (f_J6_bitCount_0f7a4 ((S 7 b.toInt.toNat) &&& (S 96 a.toInt.toNat)))] S R _
          refine u_cs (ac := [.int ((S 7 i.toInt.toNat) &&& (S 96 a.toInt.toNat))]) (rest := [.int (f_J6_bitCount_0f7a4 ((S 7 b.toInt.toNat) &&& (S 96 a.toInt.toNat)))]) rfl (by decide) mt_J6_bitCount_0f7a4 (fun _ => rfl) (Nat.le_of_ble_eq_true rfl) (Nat.le_of_ble_eq_true rfl) (fun d' => c_J6_bitCount_0f7a4 L xs n d' ((S 7 i.toInt.toNat) &&& (S 96 a.toInt.toNat)) S R) ?_
          rintro _ _ _ ⟨_, rfl, rfl, rfl, rfl⟩
          refine u_st rfl (fun _ => rfl) ?_
          refine u_st rfl (fun _ => rfl) ?_
          refine u_st rfl (fun _ => rfl) ?_
          show u_P L xs n d m_X2_dearer 75 [(5, .int ((f_J6_bitCount_0f7a4 ((S 7 b.toInt.toNat) &&& (S 96 a.toInt.toNat))) - (f_J6_bitCount_0f7a4 ((S 7 i.toInt.toNat) &&& (S 96 a.toInt.toNat))))), (0, .ref 95), (1, .ref 2), (2, .int a), (3, .int b), (4, .int i)] [.int ((f_J6_bitCount_0f7a4 ((S 7 b.toInt.toNat) &&& (S 96 a.toInt.toNat))) - (f_J6_bitCount_0f7a4 ((S 7 i.toInt.toNat) &&& (S 96 a.toInt.toNat))))] S R _
          refine u_if_eq rfl (fun h12 => ?_) (fun h12 => ?_)
          · show u_P L xs n d m_X2_dearer 89 [(5, .int ((f_J6_bitCount_0f7a4 ((S 7 b.toInt.toNat) &&& (S 96 a.toInt.toNat))) - (f_J6_bitCount_0f7a4 ((S 7 i.toInt.toNat) &&& (S 96 a.toInt.toNat))))), (0, .ref 95), (1, .ref 2), (2, .int a), (3, .int b), (4, .int i)] [] S R _
            refine u_st rfl (fun _ => rfl) ?_
            show u_P L xs n d m_X2_dearer 90 [(5, .int ((f_J6_bitCount_0f7a4 ((S 7 b.toInt.toNat) &&& (S 96 a.toInt.toNat))) - (f_J6_bitCount_0f7a4 ((S 7 i.toInt.toNat) &&& (S 96 a.toInt.toNat))))), (0, .ref 95), (1, .ref 2), (2, .int a), (3, .int b), (4, .int i)] [.ref 2] S R _
            refine u_getr rfl rfl rfl ?_
            refine u_st rfl (fun _ => rfl) ?_
            show u_P L xs n d m_X2_dearer 94 [(5, .int ((f_J6_bitCount_0f7a4 ((S 7 b.toInt.toNat) &&& (S 96 a.toInt.toNat))) - (f_J6_bitCount_0f7a4 ((S 7 i.toInt.toNat) &&& (S 96 a.toInt.toNat))))), (0, .ref 95), (1, .ref 2), (2, .int a), (3, .int b), (4, .int i)] [.int b, .ref 3] S R _
            refine u_ialdE (v := S 2 b.toInt.toNat) rfl rfl rfl (fun b131 b132 => ?_)
            refine u_st rfl (fun _ => rfl) ?_
            show u_P L xs n d m_X2_dearer 96 [(5, .int ((f_J6_bitCount_0f7a4 ((S 7 b.toInt.toNat) &&& (S 96 a.toInt.toNat))) - (f_J6_bitCount_0f7a4 ((S 7 i.toInt.toNat) &&& (S 96 a.toInt.toNat))))), (0, .ref 95), (1, .ref 2), (2, .int a), (3, .int b), (4, .int i)] [.ref 2, .int (S 2 b.toInt.toNat)] S R _
            refine u_getr rfl rfl rfl ?_
            refine u_st rfl (fun _ => rfl) ?_
            show u_P L xs n d m_X2_dearer 101 [(5, .int ((f_J6_bitCount_0f7a4 ((S 7 b.toInt.toNat) &&& (S 96 a.toInt.toNat))) - (f_J6_bitCount_0f7a4 ((S 7 i.toInt.toNat) &&& (S 96 a.toInt.toNat))))), (0, .ref 95), (1, .ref 2), (2, .int a), (3, .int b), (4, .int i)] [.int i, .ref 3, .int (S 2 b.toInt.toNat)] S R _
            refine u_ialdE (v := S 2 i.toInt.toNat) rfl rfl rfl (fun b141 b142 => ?_)
            refine u_st rfl (fun _ => rfl) ?_
            refine u_st rfl (fun _ => rfl) ?_
            refine u_st rfl (fun _ => rfl) ?_
            show u_P L xs n d m_X2_dearer 107 [(6, .int ((S 2 b.toInt.toNat) - (S 2 i.toInt.toNat))), (5, .int ((f_J6_bitCount_0f7a4 ((S 7 b.toInt.toNat) &&& (S 96 a.toInt.toNat))) - (f_J6_bitCount_0f7a4 ((S 7 i.toInt.toNat) &&& (S 96 a.toInt.toNat))))), (0, .ref 95), (1, .ref 2), (2, .int a), (3, .int b), (4, .int i)] [.int ((S 2 b.toInt.toNat) - (S 2 i.toInt.toNat))] S R _
            refine u_if_gt rfl (fun h15 => ?_) (fun h15 => ?_)
            · show u_P L xs n d m_X2_dearer 121 [(6, .int ((S 2 b.toInt.toNat) - (S 2 i.toInt.toNat))), (5, .int ((f_J6_bitCount_0f7a4 ((S 7 b.toInt.toNat) &&& (S 96 a.toInt.toNat))) - (f_J6_bitCount_0f7a4 ((S 7 i.toInt.toNat) &&& (S 96 a.toInt.toNat))))), (0, .ref 95), (1, .ref 2), (2, .int a), (3, .int b), (4, .int i)] [] S R _
              refine u_st rfl (fun _ => rfl) ?_
              refine u_st rfl (fun _ => rfl) ?_
              show u_P L xs n d m_X2_dearer 126 [(6, .int ((S 2 b.toInt.toNat) - (S 2 i.toInt.toNat))), (5, .int ((f_J6_bitCount_0f7a4 ((S 7 b.toInt.toNat) &&& (S 96 a.toInt.toNat))) - (f_J6_bitCount_0f7a4 ((S 7 i.toInt.toNat) &&& (S 96 a.toInt.toNat))))), (0, .ref 95), (1, .ref 2), (2, .int a), (3, .int b), (4, .int i)] [.int (Int32.ofInt 1)] S R _
              exact u_retb rfl rfl ⟨_, rfl, rfl, by rw [f_X2_dearer, if_neg h1, if_neg h3, if_neg h5, if_pos h7, if_pos h12, if_pos h15], rfl⟩
            · show u_P L xs n d m_X2_dearer 110 [(6, .int ((S 2 b.toInt.toNat) - (S 2 i.toInt.toNat))), (5, .int ((f_J6_bitCount_0f7a4 ((S 7 b.toInt.toNat) &&& (S 96 a.toInt.toNat))) - (f_J6_bitCount_0f7a4 ((S 7 i.toInt.toNat) &&& (S 96 a.toInt.toNat))))), (0, .ref 95), (1, .ref 2), (2, .int a), (3, .int b), (4, .int i)] [] S R _
              refine u_st rfl (fun _ => rfl) ?_
              show u_P L xs n d m_X2_dearer 112 [(6, .int ((S 2 b.toInt.toNat) - (S 2 i.toInt.toNat))), (5, .int ((f_J6_bitCount_0f7a4 ((S 7 b.toInt.toNat) &&& (S 96 a.toInt.toNat))) - (f_J6_bitCount_0f7a4 ((S 7 i.toInt.toNat) &&& (S 96 a.toInt.toNat))))), (0, .ref 95), (1, .ref 2), (2, .int a), (3, .int b), (4, .int i)] [.int ((S 2 b.toInt.toNat) - (S 2 i.toInt.toNat))] S R _
              refine u_if_ne rfl (fun h16 => ?_) (fun h16 => ?_)
              · show u_P L xs n d m_X2_dearer 125 [(6, .int ((S 2 b.toInt.toNat) - (S 2 i.toInt.toNat))), (5, .int ((f_J6_bitCount_0f7a4 ((S 7 b.toInt.toNat) &&& (S 96 a.toInt.toNat))) - (f_J6_bitCount_0f7a4 ((S 7 i.toInt.toNat) &&& (S 96 a.toInt.toNat))))), (0, .ref 95), (1, .ref 2), (2, .int a), (3, .int b), (4, .int i)] [] S R _
                refine u_st rfl (fun _ => rfl) ?_
                show u_P L xs n d m_X2_dearer 126 [(6, .int ((S 2 b.toInt.toNat) - (S 2 i.toInt.toNat))), (5, .int ((f_J6_bitCount_0f7a4 ((S 7 b.toInt.toNat) &&& (S 96 a.toInt.toNat))) - (f_J6_bitCount_0f7a4 ((S 7 i.toInt.toNat) &&& (S 96 a.toInt.toNat))))), (0, .ref 95), (1, .ref 2), (2, .int a), (3, .int b), (4, .int i)] [.int (Int32.ofInt 0)] S R _
                exact u_retb rfl rfl ⟨_, rfl, rfl, by rw [f_X2_dearer, if_neg h1, if_neg h3, if_neg h5, if_pos h7, if_pos h12, if_neg h15, if_pos h16], rfl⟩
              · show u_P L xs n d m_X2_dearer 115 [(6, .int ((S 2 b.toInt.toNat) - (S 2 i.toInt.toNat))), (5, .int ((f_J6_bitCount_0f7a4 ((S 7 b.toInt.toNat) &&& (S 96 a.toInt.toNat))) - (f_J6_bitCount_0f7a4 ((S 7 i.toInt.toNat) &&& (S 96 a.toInt.toNat))))), (0, .ref 95), (1, .ref 2), (2, .int a), (3, .int b), (4, .int i)] [] S R _
                refine u_st rfl (fun _ => rfl) ?_
                refine u_st rfl (fun _ => rfl) ?_
                show u_P L xs n d m_X2_dearer 118 [(6, .int ((S 2 b.toInt.toNat) - (S 2 i.toInt.toNat))), (5, .int ((f_J6_bitCount_0f7a4 ((S 7 b.toInt.toNat) &&& (S 96 a.toInt.toNat))) - (f_J6_bitCount_0f7a4 ((S 7 i.toInt.toNat) &&& (S 96 a.toInt.toNat))))), (0, .ref 95), (1, .ref 2), (2, .int a), (3, .int b), (4, .int i)] [.int i, .int b] S R _
                refine u_ic_ge rfl (fun h17 => ?_) (fun h17 => ?_)
                · show u_P L xs n d m_X2_dearer 125 [(6, .int ((S 2 b.toInt.toNat) - (S 2 i.toInt.toNat))), (5, .int ((f_J6_bitCount_0f7a4 ((S 7 b.toInt.toNat) &&& (S 96 a.toInt.toNat))) - (f_J6_bitCount_0f7a4 ((S 7 i.toInt.toNat) &&& (S 96 a.toInt.toNat))))), (0, .ref 95), (1, .ref 2), (2, .int a), (3, .int b), (4, .int i)] [] S R _
                  refine u_st rfl (fun _ => rfl) ?_
                  show u_P L xs n d m_X2_dearer 126 [(6, .int ((S 2 b.toInt.toNat) - (S 2 i.toInt.toNat))), (5, .int ((f_J6_bitCount_0f7a4 ((S 7 b.toInt.toNat) &&& (S 96 a.toInt.toNat))) - (f_J6_bitCount_0f7a4 ((S 7 i.toInt.toNat) &&& (S 96 a.toInt.toNat))))), (0, .ref 95), (1, .ref 2), (2, .int a), (3, .int b), (4, .int i)] [.int (Int32.ofInt 0)] S R _
                  exact u_retb rfl rfl ⟨_, rfl, rfl, by rw [f_X2_dearer, if_neg h1, if_neg h3, if_neg h5, if_pos h7, if_pos h12, if_neg h15, if_neg h16, if_pos h17], rfl⟩
                · show u_P L xs n d m_X2_dearer 121 [(6, .int ((S 2 b.toInt.toNat) - (S 2 i.toInt.toNat))), (5, .int ((f_J6_bitCount_0f7a4 ((S 7 b.toInt.toNat) &&& (S 96 a.toInt.toNat))) - (f_J6_bitCount_0f7a4 ((S 7 i.toInt.toNat) &&& (S 96 a.toInt.toNat))))), (0, .ref 95), (1, .ref 2), (2, .int a), (3, .int b), (4, .int i)] [] S R _
                  refine u_st rfl (fun _ => rfl) ?_
                  refine u_st rfl (fun _ => rfl) ?_
                  show u_P L xs n d m_X2_dearer 126 [(6, .int ((S 2 b.toInt.toNat) - (S 2 i.toInt.toNat))), (5, .int ((f_J6_bitCount_0f7a4 ((S 7 b.toInt.toNat) &&& (S 96 a.toInt.toNat))) - (f_J6_bitCount_0f7a4 ((S 7 i.toInt.toNat) &&& (S 96 a.toInt.toNat))))), (0, .ref 95), (1, .ref 2), (2, .int a), (3, .int b), (4, .int i)] [.int (Int32.ofInt 1)] S R _
                  exact u_retb rfl rfl ⟨_, rfl, rfl, by rw [f_X2_dearer, if_neg h1, if_neg h3, if_neg h5, if_pos h7, if_pos h12, if_neg h15, if_neg h16, if_neg h17], rfl⟩
          · show u_P L xs n d m_X2_dearer 78 [(5, .int ((f_J6_bitCount_0f7a4 ((S 7 b.toInt.toNat) &&& (S 96 a.toInt.toNat))) - (f_J6_bitCount_0f7a4 ((S 7 i.toInt.toNat) &&& (S 96 a.toInt.toNat))))), (0, .ref 95), (1, .ref 2), (2, .int a), (3, .int b), (4, .int i)] [] S R _
            refine u_st rfl (fun _ => rfl) ?_
            show u_P L xs n d m_X2_dearer 80 [(5, .int ((f_J6_bitCount_0f7a4 ((S 7 b.toInt.toNat) &&& (S 96 a.toInt.toNat))) - (f_J6_bitCount_0f7a4 ((S 7 i.toInt.toNat) &&& (S 96 a.toInt.toNat))))), (0, .ref 95), (1, .ref 2), (2, .int a), (3, .int b), (4, .int i)] [.int ((f_J6_bitCount_0f7a4 ((S 7 b.toInt.toNat) &&& (S 96 a.toInt.toNat))) - (f_J6_bitCount_0f7a4 ((S 7 i.toInt.toNat) &&& (S 96 a.toInt.toNat))))] S R _
            refine u_if_le rfl (fun h18 => ?_) (fun h18 => ?_)
            · show u_P L xs n d m_X2_dearer 87 [(5, .int ((f_J6_bitCount_0f7a4 ((S 7 b.toInt.toNat) &&& (S 96 a.toInt.toNat))) - (f_J6_bitCount_0f7a4 ((S 7 i.toInt.toNat) &&& (S 96 a.toInt.toNat))))), (0, .ref 95), (1, .ref 2), (2, .int a), (3, .int b), (4, .int i)] [] S R _
              refine u_st rfl (fun _ => rfl) ?_
              show u_P L xs n d m_X2_dearer 88 [(5, .int ((f_J6_bitCount_0f7a4 ((S 7 b.toInt.toNat) &&& (S 96 a.toInt.toNat))) - (f_J6_bitCount_0f7a4 ((S 7 i.toInt.toNat) &&& (S 96 a.toInt.toNat))))), (0, .ref 95), (1, .ref 2), (2, .int a), (3, .int b), (4, .int i)] [.int (Int32.ofInt 0)] S R _
              exact u_retb rfl rfl ⟨_, rfl, rfl, by rw [f_X2_dearer, if_neg h1, if_neg h3, if_neg h5, if_pos h7, if_neg h12, if_pos h18], rfl⟩
            · show u_P L xs n d m_X2_dearer 83 [(5, .int ((f_J6_bitCount_0f7a4 ((S 7 b.toInt.toNat) &&& (S 96 a.toInt.toNat))) - (f_J6_bitCount_0f7a4 ((S 7 i.toInt.toNat) &&& (S 96 a.toInt.toNat))))), (0, .ref 95), (1, .ref 2), (2, .int a), (3, .int b), (4, .int i)] [] S R _
              refine u_st rfl (fun _ => rfl) ?_
              refine u_st rfl (fun _ => rfl) ?_
              show u_P L xs n d m_X2_dearer 88 [(5, .int ((f_J6_bitCount_0f7a4 ((S 7 b.toInt.toNat) &&& (S 96 a.toInt.toNat))) - (f_J6_bitCount_0f7a4 ((S 7 i.toInt.toNat) &&& (S 96 a.toInt.toNat))))), (0, .ref 95), (1, .ref 2), (2, .int a), (3, .int b), (4, .int i)] [.int (Int32.ofInt 1)] S R _
              exact u_retb rfl rfl ⟨_, rfl, rfl, by rw [f_X2_dearer, if_neg h1, if_neg h3, if_neg h5, if_pos h7, if_neg h12, if_neg h18], rfl⟩
        · show u_P L xs n d m_X2_dearer 26 [(0, .ref 95), (1, .ref 2), (2, .int a), (3, .int b), (4, .int i)] [] S R _
          refine u_st rfl (fun _ => rfl) ?_
          show u_P L xs n d m_X2_dearer 28 [(0, .ref 95), (1, .ref 2), (2, .int a), (3, .int b), (4, .int i)] [.int i] S R _
          refine u_if_ge rfl (fun h19 => ?_) (fun h19 => ?_)
          · show u_P L xs n d m_X2_dearer 35 [(0, .ref 95), (1, .ref 2), (2, .int a), (3, .int b), (4, .int i)] [] S R _
            refine u_st rfl (fun _ => rfl) ?_
            show u_P L xs n d m_X2_dearer 36 [(0, .ref 95), (1, .ref 2), (2, .int a), (3, .int b), (4, .int i)] [.int (Int32.ofInt 0)] S R _
            exact u_retb rfl rfl ⟨_, rfl, rfl, by rw [f_X2_dearer, if_neg h1, if_neg h3, if_neg h5, if_neg h7, if_pos h19], rfl⟩
          · show u_P L xs n d m_X2_dearer 31 [(0, .ref 95), (1, .ref 2), (2, .int a), (3, .int b), (4, .int i)] [] S R _
            refine u_st rfl (fun _ => rfl) ?_
            refine u_st rfl (fun _ => rfl) ?_
            show u_P L xs n d m_X2_dearer 36 [(0, .ref 95), (1, .ref 2), (2, .int a), (3, .int b), (4, .int i)] [.int (Int32.ofInt 1)] S R _
            exact u_retb rfl rfl ⟨_, rfl, rfl, by rw [f_X2_dearer, if_neg h1, if_neg h3, if_neg h5, if_neg h7, if_neg h19], rfl⟩
noncomputable def D_fill97_5  (H5 : Int32 → Int32 → Int32 → v_Sf → Prop) (K : v_Sf → Prop) (x1 : Int32) (x2 : Int32) (x3 : Int32) (S : v_Sf) : Prop := ((x3 ≤ x2 → K S) ∧ (¬ (x3 ≤ x2) → (0 ≤ x2.toInt → x2.toInt < 12 → H5 x1 (x2 + (Int32.ofInt 1)) x3 (z_s S 97 x2.toInt.toNat x1))))
noncomputable def D_fill97 (v : Int32) (H5 : Int32 → Int32 → Int32 → v_Sf → Prop) (K : v_Sf → Prop) (S : v_Sf) : Prop := H5 v (Int32.ofInt 0) (Int32.ofNat 12) S
set_option maxRecDepth 4000 in
theorem hd_fill97 (L : Nat) (xs : Nat → Int32) {R : v_Rf} (v : Int32) (H5 : Int32 → Int32 → Int32 → v_Sf → Prop) (K : v_Sf → Prop) (k5 : ∀ (x1 : Int32) (x2 : Int32) (x3 : Int32) (S : v_Sf), H5 x1 x2 x3 S → D_fill97_5 H5 K x1 x2 x3 S) : ∀ n, (∀ (d : Nat) (x1 : Int32) (x2 : Int32) (x3 : Int32) (S : v_Sf), H5 x1 x2 x3 S → u_P L xs n d m_J7_fill_53178 5 [(0, .ref 98), (1, .int x1), (2, .int x2), (3, .int x3)] [] S R (z_V R K)) := by
  intro n
  induction n using Nat.strongRecOn with
  | ind n ih =>
    intro d x1 x2 x3 S hD
    have hD := k5 x1 x2 x3 S hD
    unfold D_fill97_5 at hD
    show u_P L xs n d m_J7_fill_53178 5 [(0, .ref 98), (1, .int x1), (2, .int x2), (3, .int x3)] [] S R _
    refine u_st1 rfl (fun _ => rfl) (fun m hm => ?_)
    refine u_st rfl (fun _ => rfl) ?_
    show u_P L xs m d m_J7_fill_53178 7 [(0, .ref 98), (1, .int x1), (2, .int x2), (3, .int x3)] [.int x3, .int x2] S R _
    refine u_ic_ge rfl (fun h1 => ?_) (fun h1 => ?_)
    · have hD := hD.1 h1
      show u_P L xs m d m_J7_fill_53178 20 [(0, .ref 98), (1, .int x1), (2, .int x2), (3, .int x3)] [] S R _
      exact u_ret rfl rfl ⟨rfl, rfl, hD⟩
    · have hD := hD.2 h1
      show u_P L xs m d m_J7_fill_53178 10 [(0, .ref 98), (1, .int x1), (2, .int x2), (3, .int x3)] [] S R _
      refine u_st rfl (fun _ => rfl) ?_
      refine u_st rfl (fun _ => rfl) ?_
      refine u_st rfl (fun _ => rfl) ?_
      show u_P L xs m d m_J7_fill_53178 13 [(0, .ref 98), (1, .int x1), (2, .int x2), (3, .int x3)] [.int x1, .int x2, .ref 98] S R _
      refine u_iast rfl rfl (fun b21 b22 => ?_)
      have hD := hD b21 b22
      show u_P L xs m d m_J7_fill_53178 14 [(0, .ref 98), (1, .int x1), (2, .int x2), (3, .int x3)] [] (z_s S 97 x2.toInt.toNat x1) R _
      refine u_st rfl (fun _ => rfl) ?_
      refine u_st rfl (fun _ => rfl) ?_
      refine u_lc (b := [(0, .ref 98), (1, .int x1), (2, .int (x2 + (Int32.ofInt 1))), (3, .int x3)]) (show ([2, 0, 1, 3] : List Nat).Nodup by decide) (show ([0, 1, 2, 3] : List Nat).Nodup by decide) (fun i => match i with | 0 => rfl | 1 => rfl | 2 => rfl | 3 => rfl | _ + 4 => rfl) ?_
      exact (ih m hm) d x1 (x2 + (Int32.ofInt 1)) x3 (z_s S 97 x2.toInt.toNat x1) hD
set_option maxRecDepth 4000 in
theorem w_fill97 (L : Nat) (xs : Nat → Int32) {R : v_Rf} (v : Int32) (H5 : Int32 → Int32 → Int32 → v_Sf → Prop) (K : v_Sf → Prop) (k5 : ∀ (x1 : Int32) (x2 : Int32) (x3 : Int32) (S : v_Sf), H5 x1 x2 x3 S → D_fill97_5 H5 K x1 x2 x3 S) (n d : Nat) (S : v_Sf) (hD : D_fill97 v H5 K S) : u_P L xs n d m_J7_fill_53178 0 (lv_args 0 [.ref 98, .int v]) [] S R (z_V R K) := by
  unfold D_fill97 at hD
  show u_P L xs n d m_J7_fill_53178 0 [(0, .ref 98), (1, .int v)] [] S R _
  refine u_st rfl (fun _ => rfl) ?_
  refine u_st rfl (fun _ => rfl) ?_
  refine u_st rfl (fun _ => rfl) ?_
  show u_P L xs n d m_J7_fill_53178 3 [(2, .int (Int32.ofInt 0)), (0, .ref 98), (1, .int v)] [.ref 98] S R _
  refine u_al rfl rfl rfl ?_
  refine u_st rfl (fun _ => rfl) ?_
  refine u_lc (b := [(0, .ref 98), (1, .int v), (2, .int (Int32.ofInt 0)), (3, .int (Int32.ofNat 12))]) (show ([3, 2, 0, 1] : List Nat).Nodup by decide) (show ([0, 1, 2, 3] : List Nat).Nodup by decide) (fun i => match i with | 0 => rfl | 1 => rfl | 2 => rfl | 3 => rfl | _ + 4 => rfl) ?_
  exact (hd_fill97 L xs v H5 K k5 n) d v (Int32.ofInt 0) (Int32.ofNat 12) S hD
noncomputable def r_fill97_5 (x1 : Int32) (x3 : Int32) : Nat → Nat → v_Sf → v_Sf
  | 0, k5, S => S
  | r + 1, k5, S => r_fill97_5 x1 x3 r (k5 + 1) (z_s S 97 (z_i k5).toInt.toNat x1)
noncomputable def F_fill97 (v : Int32) (S : v_Sf) : v_Sf := r_fill97_5 v (Int32.ofNat 12) (((Int32.ofNat 12)).toInt.toNat - 0) 0 S
noncomputable def g_fill97 (v : Int32) (S : v_Sf) : v_Sf := F_fill97 v S
theorem c_fill97 (L : Nat) (xs : Nat → Int32) (n d : Nat) (v : Int32) (S : v_Sf) (R : v_Rf) : u_P L xs n d m_J7_fill_53178 0 (lv_args 0 [.ref 98, .int v]) [] S R (z_V R (fun S1 => g_fill97 v S = S1)) := by
  refine w_fill97 L xs v (fun y1 y2 y3 T => ∃ (k5 : Nat), k5 ≤ ((Int32.ofNat 12)).toInt.toNat ∧ z_i k5 = y2 ∧ v = y1 ∧ Int32.ofNat 12 = y3 ∧ r_fill97_5 v (Int32.ofNat 12) (((Int32.ofNat 12)).toInt.toNat - k5) k5 T = F_fill97 v S) (fun S1 => g_fill97 v S = S1) ?_ n d S ?_
  · rintro _ _ _ S1 ⟨k5, hkk, rfl, rfl, rfl, e⟩
    unfold D_fill97_5
    rcases Nat.lt_or_ge k5 (((Int32.ofNat 12)).toInt.toNat) with hk | hk
    · rw [show ((Int32.ofNat 12)).toInt.toNat - k5 = (((Int32.ofNat 12)).toInt.toNat - (k5 + 1)) + 1 by omega, r_fill97_5] at e
      refine ⟨fun q1 => ?_, fun q1 => ?_⟩
      · exact absurd hk (Nat.not_lt.mpr (z_leV q1 (by omega)))
      · intro _ _
        exact ⟨(k5 + 1), by omega, (z_i1 k5).symm, rfl, rfl, e⟩
    · rw [show ((Int32.ofNat 12)).toInt.toNat - k5 = 0 by omega, r_fill97_5] at e
      refine ⟨fun q2 => ?_, fun q2 => ?_⟩
      · exact e.symm
      · exact absurd hk (Nat.not_le.mpr (z_ltV q2 (by omega)))
  · unfold D_fill97
    have e : r_fill97_5 v (Int32.ofNat 12) (((Int32.ofNat 12)).toInt.toNat - 0) 0 S = F_fill97 v S := by rw [F_fill97]
    exact ⟨0, by omega, rfl, rfl, rfl, e⟩
noncomputable def D_fill98_5  (H5 : Int32 → Int32 → Int32 → v_Sf → Prop) (K : v_Sf → Prop) (x1 : Int32) (x2 : Int32) (x3 : Int32) (S : v_Sf) : Prop := ((x3 ≤ x2 → K S) ∧ (¬ (x3 ≤ x2) → (0 ≤ x2.toInt → x2.toInt < 5 → H5 x1 (x2 + (Int32.ofInt 1)) x3 (z_s S 98 x2.toInt.toNat x1))))
noncomputable def D_fill98 (v : Int32) (H5 : Int32 → Int32 → Int32 → v_Sf → Prop) (K : v_Sf → Prop) (S : v_Sf) : Prop := H5 v (Int32.ofInt 0) (Int32.ofNat 5) S
set_option maxRecDepth 4000 in
theorem hd_fill98 (L : Nat) (xs : Nat → Int32) {R : v_Rf} (v : Int32) (H5 : Int32 → Int32 → Int32 → v_Sf → Prop) (K : v_Sf → Prop) (k5 : ∀ (x1 : Int32) (x2 : Int32) (x3 : Int32) (S : v_Sf), H5 x1 x2 x3 S → D_fill98_5 H5 K x1 x2 x3 S) : ∀ n, (∀ (d : Nat) (x1 : Int32) (x2 : Int32) (x3 : Int32) (S : v_Sf), H5 x1 x2 x3 S → u_P L xs n d m_J7_fill_53178 5 [(0, .ref 99), (1, .int x1), (2, .int x2), (3, .int x3)] [] S R (z_V R K)) := by
  intro n
  induction n using Nat.strongRecOn with
  | ind n ih =>
    intro d x1 x2 x3 S hD
    have hD := k5 x1 x2 x3 S hD
    unfold D_fill98_5 at hD
    show u_P L xs n d m_J7_fill_53178 5 [(0, .ref 99), (1, .int x1), (2, .int x2), (3, .int x3)] [] S R _
    refine u_st1 rfl (fun _ => rfl) (fun m hm => ?_)
    refine u_st rfl (fun _ => rfl) ?_
    show u_P L xs m d m_J7_fill_53178 7 [(0, .ref 99), (1, .int x1), (2, .int x2), (3, .int x3)] [.int x3, .int x2] S R _
    refine u_ic_ge rfl (fun h1 => ?_) (fun h1 => ?_)
    · have hD := hD.1 h1
      show u_P L xs m d m_J7_fill_53178 20 [(0, .ref 99), (1, .int x1), (2, .int x2), (3, .int x3)] [] S R _
      exact u_ret rfl rfl ⟨rfl, rfl, hD⟩
    · have hD := hD.2 h1
      show u_P L xs m d m_J7_fill_53178 10 [(0, .ref 99), (1, .int x1), (2, .int x2), (3, .int x3)] [] S R _
      refine u_st rfl (fun _ => rfl) ?_
      refine u_st rfl (fun _ => rfl) ?_
      refine u_st rfl (fun _ => rfl) ?_
      show u_P L xs m d m_J7_fill_53178 13 [(0, .ref 99), (1, .int x1), (2, .int x2), (3, .int x3)] [.int x1, .int x2, .ref 99] S R _
      refine u_iast rfl rfl (fun b21 b22 => ?_)
      have hD := hD b21 b22
      show u_P L xs m d m_J7_fill_53178 14 [(0, .ref 99), (1, .int x1), (2, .int x2), (3, .int x3)] [] (z_s S 98 x2.toInt.toNat x1) R _
      refine u_st rfl (fun _ => rfl) ?_
      refine u_st rfl (fun _ => rfl) ?_
      refine u_lc (b := [(0, .ref 99), (1, .int x1), (2, .int (x2 + (Int32.ofInt 1))), (3, .int x3)]) (show ([2, 0, 1, 3] : List Nat).Nodup by decide) (show ([0, 1, 2, 3] : List Nat).Nodup by decide) (fun i => match i with | 0 => rfl | 1 => rfl | 2 => rfl | 3 => rfl | _ + 4 => rfl) ?_
      exact (ih m hm) d x1 (x2 + (Int32.ofInt 1)) x3 (z_s S 98 x2.toInt.toNat x1) hD
set_option maxRecDepth 4000 in
theorem w_fill98 (L : Nat) (xs : Nat → Int32) {R : v_Rf} (v : Int32) (H5 : Int32 → Int32 → Int32 → v_Sf → Prop) (K : v_Sf → Prop) (k5 : ∀ (x1 : Int32) (x2 : Int32) (x3 : Int32) (S : v_Sf), H5 x1 x2 x3 S → D_fill98_5 H5 K x1 x2 x3 S) (n d : Nat) (S : v_Sf) (hD : D_fill98 v H5 K S) : u_P L xs n d m_J7_fill_53178 0 (lv_args 0 [.ref 99, .int v]) [] S R (z_V R K) := by
  unfold D_fill98 at hD
  show u_P L xs n d m_J7_fill_53178 0 [(0, .ref 99), (1, .int v)] [] S R _
  refine u_st rfl (fun _ => rfl) ?_
  refine u_st rfl (fun _ => rfl) ?_
  refine u_st rfl (fun _ => rfl) ?_
  show u_P L xs n d m_J7_fill_53178 3 [(2, .int (Int32.ofInt 0)), (0, .ref 99), (1, .int v)] [.ref 99] S R _
  refine u_al rfl rfl rfl ?_
  refine u_st rfl (fun _ => rfl) ?_
  refine u_lc (b := [(0, .ref 99), (1, .int v), (2, .int (Int32.ofInt 0)), (3, .int (Int32.ofNat 5))]) (show ([3, 2, 0, 1] : List Nat).Nodup by decide) (show ([0, 1, 2, 3] : List Nat).Nodup by decide) (fun i => match i with | 0 => rfl | 1 => rfl | 2 => rfl | 3 => rfl | _ + 4 => rfl) ?_
  exact (hd_fill98 L xs v H5 K k5 n) d v (Int32.ofInt 0) (Int32.ofNat 5) S hD
noncomputable def r_fill98_5 (x1 : Int32) (x3 : Int32) : Nat → Nat → v_Sf → v_Sf
  | 0, k5, S => S
  | r + 1, k5, S => r_fill98_5 x1 x3 r (k5 + 1) (z_s S 98 (z_i k5).toInt.toNat x1)
noncomputable def F_fill98 (v : Int32) (S : v_Sf) : v_Sf := r_fill98_5 v (Int32.ofNat 5) (((Int32.ofNat 5)).toInt.toNat - 0) 0 S
noncomputable def g_fill98 (v : Int32) (S : v_Sf) : v_Sf := F_fill98 v S
theorem c_fill98 (L : Nat) (xs : Nat → Int32) (n d : Nat) (v : Int32) (S : v_Sf) (R : v_Rf) : u_P L xs n d m_J7_fill_53178 0 (lv_args 0 [.ref 99, .int v]) [] S R (z_V R (fun S1 => g_fill98 v S = S1)) := by
  refine w_fill98 L xs v (fun y1 y2 y3 T => ∃ (k5 : Nat), k5 ≤ ((Int32.ofNat 5)).toInt.toNat ∧ z_i k5 = y2 ∧ v = y1 ∧ Int32.ofNat 5 = y3 ∧ r_fill98_5 v (Int32.ofNat 5) (((Int32.ofNat 5)).toInt.toNat - k5) k5 T = F_fill98 v S) (fun S1 => g_fill98 v S = S1) ?_ n d S ?_
  · rintro _ _ _ S1 ⟨k5, hkk, rfl, rfl, rfl, e⟩
    unfold D_fill98_5
    rcases Nat.lt_or_ge k5 (((Int32.ofNat 5)).toInt.toNat) with hk | hk
    · rw [show ((Int32.ofNat 5)).toInt.toNat - k5 = (((Int32.ofNat 5)).toInt.toNat - (k5 + 1)) + 1 by omega, r_fill98_5] at e
      refine ⟨fun q1 => ?_, fun q1 => ?_⟩
      · exact absurd hk (Nat.not_lt.mpr (z_leV q1 (by omega)))
      · intro _ _
        exact ⟨(k5 + 1), by omega, (z_i1 k5).symm, rfl, rfl, e⟩
    · rw [show ((Int32.ofNat 5)).toInt.toNat - k5 = 0 by omega, r_fill98_5] at e
      refine ⟨fun q2 => ?_, fun q2 => ?_⟩
      · exact e.symm
      · exact absurd hk (Nat.not_le.mpr (z_ltV q2 (by omega)))
  · unfold D_fill98
    have e : r_fill98_5 v (Int32.ofNat 5) (((Int32.ofNat 5)).toInt.toNat - 0) 0 S = F_fill98 v S := by rw [F_fill98]
    exact ⟨0, by omega, rfl, rfl, rfl, e⟩
noncomputable abbrev m_X2_readRow : g_M := (g_cn 2, yX2_readRow, cX2_readRow, 6, (some .boolean), g_look2 ttX2_readRow)
set_option maxRecDepth 20000 in
theorem mt_X2_readRow : g_mt 24 = some m_X2_readRow := rfl
noncomputable def D_X2_readRow_21  (H21 : Int32 → Int32 → Int32 → v_Sf → Prop) (K : Int32 → v_Sf → Prop) (x2 : Int32) (x3 : Int32) (x4 : Int32) (S : v_Sf) : Prop := (((Int32.ofInt 12) ≤ x4 → K (Int32.ofInt 1) S) ∧ (¬ ((Int32.ofInt 12) ≤ x4) → (((¬ (f_X11_isIn x2 x4) = 0) → (((¬ (f_X8_at x3 S) = (Int32.ofInt 255)) → (((f_X8_at x3 S) < 0 → K (Int32.ofInt 0) S) ∧ (¬ ((f_X8_at x3 S) < 0) → (((Int32.ofInt 5) ≤ (f_X8_at x3 S) → K (Int32.ofInt 0) S) ∧ (¬ ((Int32.ofInt 5) ≤ (f_X8_at x3 S)) → (((f_X11_isIn (S 94 0) (f_X8_at x3 S)) = 0 → K (Int32.ofInt 0) S) ∧ (¬ ((f_X11_isIn (S 94 0) (f_X8_at x3 S)) = 0) → (0 ≤ (f_X8_at x3 S).toInt → (f_X8_at x3 S).toInt < 5 → (((S 98 ((f_X8_at x3 S).toInt.toNat)) = (Int32.ofInt (-1)) → (0 ≤ x4.toInt → x4.toInt < 12 → (0 ≤ (f_X8_at x3 S).toInt → (f_X8_at x3 S).toInt < 5 → H21 x2 (x3 + (Int32.ofInt 1)) (x4 + (Int32.ofInt 1)) (z_s (z_s S 97 x4.toInt.toNat (f_X8_at x3 S)) 98 ((f_X8_at x3 S).toInt.toNat) x4)))) ∧ (¬ ((S 98 ((f_X8_at x3 S).toInt.toNat)) = (Int32.ofInt (-1))) → K (Int32.ofInt 0) S)))))))))) ∧ (¬ (¬ (f_X8_at x3 S) = (Int32.ofInt 255)) → H21 x2 (x3 + (Int32.ofInt 1)) (x4 + (Int32.ofInt 1)) S))) ∧ (¬ (¬ (f_X11_isIn x2 x4) = 0) → H21 x2 x3 (x4 + (Int32.ofInt 1)) S))))
noncomputable def D_X2_readRow (a : Int32) (H21 : Int32 → Int32 → Int32 → v_Sf → Prop) (K : Int32 → v_Sf → Prop) (S : v_Sf) : Prop := H21 a (Int32.ofInt 0) (Int32.ofInt 0) (g_fill98 (Int32.ofInt (-1)) (g_fill97 (Int32.ofInt (-1)) S))
set_option maxRecDepth 4000 in
theorem hd_X2_readRow (L : Nat) (xs : Nat → Int32) {R : v_Rf} (a : Int32) (H21 : Int32 → Int32 → Int32 → v_Sf → Prop) (K : Int32 → v_Sf → Prop) (k21 : ∀ (x2 : Int32) (x3 : Int32) (x4 : Int32) (S : v_Sf), H21 x2 x3 x4 S → D_X2_readRow_21 H21 K x2 x3 x4 S) : ∀ n, (∀ (d : Nat) (x2 : Int32) (x3 : Int32) (x4 : Int32) (S : v_Sf), H21 x2 x3 x4 S → u_P L xs n d m_X2_readRow 21 [(0, .ref 95), (1, .ref 46), (2, .int x2), (3, .int x3), (4, .int x4)] [] S R (z_Q R K)) ∧ (∀ (d : Nat) (j5 : Int32) (x2 : Int32) (x3 : Int32) (x4 : Int32) (S : v_Sf), H21 x2 x3 x4 S → u_P L xs n d m_X2_readRow 21 [(0, .ref 95), (1, .ref 46), (2, .int x2), (3, .int x3), (4, .int x4), (5, .int j5)] [] S R (z_Q R K)) := by
  intro n
  induction n using Nat.strongRecOn with
  | ind n ih =>
    refine ⟨?_, ?_⟩
    · intro d x2 x3 x4 S hD
      have hD := k21 x2 x3 x4 S hD
      unfold D_X2_readRow_21 at hD
      show u_P L xs n d m_X2_readRow 21 [(0, .ref 95), (1, .ref 46), (2, .int x2), (3, .int x3), (4, .int x4)] [] S R _
      refine u_st1 rfl (fun _ => rfl) (fun m hm => ?_)
      refine u_st rfl (fun _ => rfl) ?_
      show u_P L xs m d m_X2_readRow 25 [(0, .ref 95), (1, .ref 46), (2, .int x2), (3, .int x3), (4, .int x4)] [.int (Int32.ofInt 12), .int x4] S R _
      refine u_ic_ge rfl (fun h1 => ?_) (fun h1 => ?_)
      · have hD := hD.1 h1
        show u_P L xs m d m_X2_readRow 121 [(0, .ref 95), (1, .ref 46), (2, .int x2), (3, .int x3), (4, .int x4)] [] S R _
        refine u_st rfl (fun _ => rfl) ?_
        show u_P L xs m d m_X2_readRow 122 [(0, .ref 95), (1, .ref 46), (2, .int x2), (3, .int x3), (4, .int x4)] [.int (Int32.ofInt 1)] S R _
        exact u_retb rfl rfl ⟨_, rfl, rfl, hD⟩
      · have hD := hD.2 h1
        show u_P L xs m d m_X2_readRow 28 [(0, .ref 95), (1, .ref 46), (2, .int x2), (3, .int x3), (4, .int x4)] [] S R _
        refine u_st rfl (fun _ => rfl) ?_
        refine u_st rfl (fun _ => rfl) ?_
        show u_P L xs m d m_X2_readRow 31 [(0, .ref 95), (1, .ref 46), (2, .int x2), (3, .int x3), (4, .int x4)] [.int x4, .int x2] S R _
        refine u_cs (ac := [.int x2, .int x4]) (rest := []) rfl (by decide) mt_X11_isIn (fun _ => rfl) (Nat.le_of_ble_eq_true rfl) (Nat.le_of_ble_eq_true rfl) (fun d' => c_X11_isIn L xs m d' x2 x4 S R) ?_
        rintro _ _ _ ⟨_, rfl, rfl, rfl, rfl⟩
        show u_P L xs m d m_X2_readRow 34 [(0, .ref 95), (1, .ref 46), (2, .int x2), (3, .int x3), (4, .int x4)] [.int (f_X11_isIn x2 x4)] S R _
        refine u_if_ne rfl (fun h2 => ?_) (fun h2 => ?_)
        · have hD := hD.1 h2
          show u_P L xs m d m_X2_readRow 40 [(0, .ref 95), (1, .ref 46), (2, .int x2), (3, .int x3), (4, .int x4)] [] S R _
          refine u_st rfl (fun _ => rfl) ?_
          refine u_st rfl (fun _ => rfl) ?_
          show u_P L xs m d m_X2_readRow 42 [(0, .ref 95), (1, .ref 46), (2, .int x2), (3, .int x3), (4, .int x4)] [.int x3, .ref 46] S R _
          refine u_cv (rest := []) rfl (by decide) mt_X8_at rfl rfl rfl rfl (Nat.le_of_ble_eq_true rfl) (Nat.le_of_ble_eq_true rfl) (Nat.le_of_ble_eq_true rfl) (fun d' => c_X8_at L xs m d' x3 S R) ?_
          rintro _ _ _ ⟨_, rfl, rfl, rfl, rfl⟩
          refine u_st rfl (fun _ => rfl) ?_
          refine u_st rfl (fun _ => rfl) ?_
          refine u_st rfl (fun _ => rfl) ?_
          refine u_st rfl (fun _ => rfl) ?_
          show u_P L xs m d m_X2_readRow 55 [(3, .int (x3 + (Int32.ofInt 1))), (5, .int (f_X8_at x3 S)), (0, .ref 95), (1, .ref 46), (2, .int x2), (4, .int x4)] [.int (Int32.ofInt 255), .int (f_X8_at x3 S)] S R _
          refine u_ic_ne rfl (fun h3 => ?_) (fun h3 => ?_)
          · have hD := hD.1 h3
            show u_P L xs m d m_X2_readRow 61 [(3, .int (x3 + (Int32.ofInt 1))), (5, .int (f_X8_at x3 S)), (0, .ref 95), (1, .ref 46), (2, .int x2), (4, .int x4)] [] S R _
            refine u_st rfl (fun _ => rfl) ?_
            show u_P L xs m d m_X2_readRow 63 [(3, .int (x3 + (Int32.ofInt 1))), (5, .int (f_X8_at x3 S)), (0, .ref 95), (1, .ref 46), (2, .int x2), (4, .int x4)] [.int (f_X8_at x3 S)] S R _
            refine u_if_lt rfl (fun h4 => ?_) (fun h4 => ?_)
            · have hD := hD.1 h4
              show u_P L xs m d m_X2_readRow 95 [(3, .int (x3 + (Int32.ofInt 1))), (5, .int (f_X8_at x3 S)), (0, .ref 95), (1, .ref 46), (2, .int x2), (4, .int x4)] [] S R _
              refine u_st rfl (fun _ => rfl) ?_
              show u_P L xs m d m_X2_readRow 96 [(3, .int (x3 + (Int32.ofInt 1))), (5, .int (f_X8_at x3 S)), (0, .ref 95), (1, .ref 46), (2, .int x2), (4, .int x4)] [.int (Int32.ofInt 0)] S R _
              exact u_retb rfl rfl ⟨_, rfl, rfl, hD⟩
            · have hD := hD.2 h4
              show u_P L xs m d m_X2_readRow 66 [(3, .int (x3 + (Int32.ofInt 1))), (5, .int (f_X8_at x3 S)), (0, .ref 95), (1, .ref 46), (2, .int x2), (4, .int x4)] [] S R _
              refine u_st rfl (fun _ => rfl) ?_
              refine u_st rfl (fun _ => rfl) ?_
              show u_P L xs m d m_X2_readRow 69 [(3, .int (x3 + (Int32.ofInt 1))), (5, .int (f_X8_at x3 S)), (0, .ref 95), (1, .ref 46), (2, .int x2), (4, .int x4)] [.int (Int32.ofInt 5), .int (f_X8_at x3 S)] S R _
              refine u_ic_ge rfl (fun h5 => ?_) (fun h5 => ?_)
              · have hD := hD.1 h5
                show u_P L xs m d m_X2_readRow 95 [(3, .int (x3 + (Int32.ofInt 1))), (5, .int (f_X8_at x3 S)), (0, .ref 95), (1, .ref 46), (2, .int x2), (4, .int x4)] [] S R _
                refine u_st rfl (fun _ => rfl) ?_
                show u_P L xs m d m_X2_readRow 96 [(3, .int (x3 + (Int32.ofInt 1))), (5, .int (f_X8_at x3 S)), (0, .ref 95), (1, .ref 46), (2, .int x2), (4, .int x4)] [.int (Int32.ofInt 0)] S R _
                exact u_retb rfl rfl ⟨_, rfl, rfl, hD⟩
              · have hD := hD.2 h5
                show u_P L xs m d m_X2_readRow 72 [(3, .int (x3 + (Int32.ofInt 1))), (5, .int (f_X8_at x3 S)), (0, .ref 95), (1, .ref 46), (2, .int x2), (4, .int x4)] [] S R _
                refine u_st rfl (fun _ => rfl) ?_
                show u_P L xs m d m_X2_readRow 73 [(3, .int (x3 + (Int32.ofInt 1))), (5, .int (f_X8_at x3 S)), (0, .ref 95), (1, .ref 46), (2, .int x2), (4, .int x4)] [.ref 95] S R _
                refine u_getE (v := S 94 0) rfl rfl rfl rfl ?_
                refine u_st rfl (fun _ => rfl) ?_
                show u_P L xs m d m_X2_readRow 78 [(3, .int (x3 + (Int32.ofInt 1))), (5, .int (f_X8_at x3 S)), (0, .ref 95), (1, .ref 46), (2, .int x2), (4, .int x4)] [.int (f_X8_at x3 S), .int (S 94 0)] S R _
                refine u_cs (ac := [.int (S 94 0), .int (f_X8_at x3 S)]) (rest := []) rfl (by decide) mt_X11_isIn (fun _ => rfl) (Nat.le_of_ble_eq_true rfl) (Nat.le_of_ble_eq_true rfl) (fun d' => c_X11_isIn L xs m d' (S 94 0) (f_X8_at x3 S) S R) ?_
                rintro _ _ _ ⟨_, rfl, rfl, rfl, rfl⟩
                show u_P L xs m d m_X2_readRow 81 [(3, .int (x3 + (Int32.ofInt 1))), (5, .int (f_X8_at x3 S)), (0, .ref 95), (1, .ref 46), (2, .int x2), (4, .int x4)] [.int (f_X11_isIn (S 94 0) (f_X8_at x3 S))] S R _
                refine u_if_eq rfl (fun h6 => ?_) (fun h6 => ?_)
                · have hD := hD.1 h6
                  show u_P L xs m d m_X2_readRow 95 [(3, .int (x3 + (Int32.ofInt 1))), (5, .int (f_X8_at x3 S)), (0, .ref 95), (1, .ref 46), (2, .int x2), (4, .int x4)] [] S R _
                  refine u_st rfl (fun _ => rfl) ?_
                  show u_P L xs m d m_X2_readRow 96 [(3, .int (x3 + (Int32.ofInt 1))), (5, .int (f_X8_at x3 S)), (0, .ref 95), (1, .ref 46), (2, .int x2), (4, .int x4)] [.int (Int32.ofInt 0)] S R _
                  exact u_retb rfl rfl ⟨_, rfl, rfl, hD⟩
                · have hD := hD.2 h6
                  show u_P L xs m d m_X2_readRow 84 [(3, .int (x3 + (Int32.ofInt 1))), (5, .int (f_X8_at x3 S)), (0, .ref 95), (1, .ref 46), (2, .int x2), (4, .int x4)] [] S R _
                  refine u_st rfl (fun _ => rfl) ?_
                  show u_P L xs m d m_X2_readRow 85 [(3, .int (x3 + (Int32.ofInt 1))), (5, .int (f_X8_at x3 S)), (0, .ref 95), (1, .ref 46), (2, .int x2), (4, .int x4)] [.ref 95] S R _
                  refine u_getr rfl rfl rfl ?_
                  refine u_st rfl (fun _ => rfl) ?_
                  show u_P L xs m d m_X2_readRow 90 [(3, .int (x3 + (Int32.ofInt 1))), (5, .int (f_X8_at x3 S)), (0, .ref 95), (1, .ref 46), (2, .int x2), (4, .int x4)] [.int (f_X8_at x3 S), .ref 99] S R _
                  refine u_ialdE (v := S 98 ((f_X8_at x3 S).toInt.toNat)) rfl rfl rfl (fun b71 b72 => ?_)
                  have hD := hD b71 b72
                  show u_P L xs m d m_X2_readRow 91 [(3, .int (x3 + (Int32.ofInt 1))), (5, .int (f_X8_at x3 S)), (0, .ref 95), (1, .ref 46), (2, .int x2), (4, .int x4)] [.int (S 98 ((f_X8_at x3 S).toInt.toNat))] S R _
                  refine u_st rfl (fun _ => rfl) ?_
                  show u_P L xs m d m_X2_readRow 92 [(3, .int (x3 + (Int32.ofInt 1))), (5, .int (f_X8_at x3 S)), (0, .ref 95), (1, .ref 46), (2, .int x2), (4, .int x4)] [.int (Int32.ofInt (-1)), .int (S 98 ((f_X8_at x3 S).toInt.toNat))] S R _
                  refine u_ic_eq rfl (fun h8 => ?_) (fun h8 => ?_)
                  · have hD := hD.1 h8
                    show u_P L xs m d m_X2_readRow 97 [(3, .int (x3 + (Int32.ofInt 1))), (5, .int (f_X8_at x3 S)), (0, .ref 95), (1, .ref 46), (2, .int x2), (4, .int x4)] [] S R _
                    refine u_st rfl (fun _ => rfl) ?_
                    show u_P L xs m d m_X2_readRow 98 [(3, .int (x3 + (Int32.ofInt 1))), (5, .int (f_X8_at x3 S)), (0, .ref 95), (1, .ref 46), (2, .int x2), (4, .int x4)] [.ref 95] S R _
                    refine u_getr rfl rfl rfl ?_
                    refine u_st rfl (fun _ => rfl) ?_
                    refine u_st rfl (fun _ => rfl) ?_
                    show u_P L xs m d m_X2_readRow 105 [(3, .int (x3 + (Int32.ofInt 1))), (5, .int (f_X8_at x3 S)), (0, .ref 95), (1, .ref 46), (2, .int x2), (4, .int x4)] [.int (f_X8_at x3 S), .int x4, .ref 98] S R _
                    refine u_iast rfl rfl (fun b91 b92 => ?_)
                    have hD := hD b91 b92
                    show u_P L xs m d m_X2_readRow 106 [(3, .int (x3 + (Int32.ofInt 1))), (5, .int (f_X8_at x3 S)), (0, .ref 95), (1, .ref 46), (2, .int x2), (4, .int x4)] [] (z_s S 97 x4.toInt.toNat (f_X8_at x3 S)) R _
                    refine u_st rfl (fun _ => rfl) ?_
                    show u_P L xs m d m_X2_readRow 107 [(3, .int (x3 + (Int32.ofInt 1))), (5, .int (f_X8_at x3 S)), (0, .ref 95), (1, .ref 46), (2, .int x2), (4, .int x4)] [.ref 95] (z_s S 97 x4.toInt.toNat (f_X8_at x3 S)) R _
                    refine u_getr rfl rfl rfl ?_
                    refine u_st rfl (fun _ => rfl) ?_
                    refine u_st rfl (fun _ => rfl) ?_
                    show u_P L xs m d m_X2_readRow 114 [(3, .int (x3 + (Int32.ofInt 1))), (5, .int (f_X8_at x3 S)), (0, .ref 95), (1, .ref 46), (2, .int x2), (4, .int x4)] [.int x4, .int (f_X8_at x3 S), .ref 99] (z_s S 97 x4.toInt.toNat (f_X8_at x3 S)) R _
                    refine u_iast rfl rfl (fun b101 b102 => ?_)
                    have hD := hD b101 b102
                    show u_P L xs m d m_X2_readRow 115 [(3, .int (x3 + (Int32.ofInt 1))), (5, .int (f_X8_at x3 S)), (0, .ref 95), (1, .ref 46), (2, .int x2), (4, .int x4)] [] (z_s (z_s S 97 x4.toInt.toNat (f_X8_at x3 S)) 98 ((f_X8_at x3 S).toInt.toNat) x4) R _
                    refine u_st rfl (fun _ => rfl) ?_
                    refine u_st rfl (fun _ => rfl) ?_
                    refine u_lc (b := [(0, .ref 95), (1, .ref 46), (2, .int x2), (3, .int (x3 + (Int32.ofInt 1))), (4, .int (x4 + (Int32.ofInt 1))), (5, .int (f_X8_at x3 S))]) (show ([4, 3, 5, 0, 1, 2] : List Nat).Nodup by decide) (show ([0, 1, 2, 3, 4, 5] : List Nat).Nodup by decide) (fun i => match i with | 0 => rfl | 1 => rfl | 2 => rfl | 3 => rfl | 4 => rfl | 5 => rfl | _ + 6 => rfl) ?_
                    exact (ih m hm).2 d (f_X8_at x3 S) x2 (x3 + (Int32.ofInt 1)) (x4 + (Int32.ofInt 1)) (z_s (z_s S 97 x4.toInt.toNat (f_X8_at x3 S)) 98 ((f_X8_at x3 S).toInt.toNat) x4) hD
                  · have hD := hD.2 h8
                    show u_P L xs m d m_X2_readRow 95 [(3, .int (x3 + (Int32.ofInt 1))), (5, .int (f_X8_at x3 S)), (0, .ref 95), (1, .ref 46), (2, .int x2), (4, .int x4)] [] S R _
                    refine u_st rfl (fun _ => rfl) ?_
                    show u_P L xs m d m_X2_readRow 96 [(3, .int (x3 + (Int32.ofInt 1))), (5, .int (f_X8_at x3 S)), (0, .ref 95), (1, .ref 46), (2, .int x2), (4, .int x4)] [.int (Int32.ofInt 0)] S R _
                    exact u_retb rfl rfl ⟨_, rfl, rfl, hD⟩
          · have hD := hD.2 h3
            show u_P L xs m d m_X2_readRow 58 [(3, .int (x3 + (Int32.ofInt 1))), (5, .int (f_X8_at x3 S)), (0, .ref 95), (1, .ref 46), (2, .int x2), (4, .int x4)] [] S R _
            refine u_st rfl (fun _ => rfl) ?_
            refine u_st rfl (fun _ => rfl) ?_
            refine u_st rfl (fun _ => rfl) ?_
            refine u_lc (b := [(0, .ref 95), (1, .ref 46), (2, .int x2), (3, .int (x3 + (Int32.ofInt 1))), (4, .int (x4 + (Int32.ofInt 1))), (5, .int (f_X8_at x3 S))]) (show ([4, 3, 5, 0, 1, 2] : List Nat).Nodup by decide) (show ([0, 1, 2, 3, 4, 5] : List Nat).Nodup by decide) (fun i => match i with | 0 => rfl | 1 => rfl | 2 => rfl | 3 => rfl | 4 => rfl | 5 => rfl | _ + 6 => rfl) ?_
            exact (ih m hm).2 d (f_X8_at x3 S) x2 (x3 + (Int32.ofInt 1)) (x4 + (Int32.ofInt 1)) S hD
        · have hD := hD.2 h2
          show u_P L xs m d m_X2_readRow 37 [(0, .ref 95), (1, .ref 46), (2, .int x2), (3, .int x3), (4, .int x4)] [] S R _
          refine u_st rfl (fun _ => rfl) ?_
          refine u_st rfl (fun _ => rfl) ?_
          refine u_st rfl (fun _ => rfl) ?_
          refine u_lc (b := [(0, .ref 95), (1, .ref 46), (2, .int x2), (3, .int x3), (4, .int (x4 + (Int32.ofInt 1)))]) (show ([4, 0, 1, 2, 3] : List Nat).Nodup by decide) (show ([0, 1, 2, 3, 4] : List Nat).Nodup by decide) (fun i => match i with | 0 => rfl | 1 => rfl | 2 => rfl | 3 => rfl | 4 => rfl | _ + 5 => rfl) ?_
          exact (ih m hm).1 d x2 x3 (x4 + (Int32.ofInt 1)) S hD
    · intro d j5 x2 x3 x4 S hD
      have hD := k21 x2 x3 x4 S hD
      unfold D_X2_readRow_21 at hD
      show u_P L xs n d m_X2_readRow 21 [(0, .ref 95), (1, .ref 46), (2, .int x2), (3, .int x3), (4, .int x4), (5, .int j5)] [] S R _
      refine u_st1 rfl (fun _ => rfl) (fun m hm => ?_)
      refine u_st rfl (fun _ => rfl) ?_
      show u_P L xs m d m_X2_readRow 25 [(0, .ref 95), (1, .ref 46), (2, .int x2), (3, .int x3), (4, .int x4), (5, .int j5)] [.int (Int32.ofInt 12), .int x4] S R _
      refine u_ic_ge rfl (fun h1 => ?_) (fun h1 => ?_)
      · have hD := hD.1 h1
        show u_P L xs m d m_X2_readRow 121 [(0, .ref 95), (1, .ref 46), (2, .int x2), (3, .int x3), (4, .int x4), (5, .int j5)] [] S R _
        refine u_st rfl (fun _ => rfl) ?_
        show u_P L xs m d m_X2_readRow 122 [(0, .ref 95), (1, .ref 46), (2, .int x2), (3, .int x3), (4, .int x4), (5, .int j5)] [.int (Int32.ofInt 1)] S R _
        exact u_retb rfl rfl ⟨_, rfl, rfl, hD⟩
      · have hD := hD.2 h1
        show u_P L xs m d m_X2_readRow 28 [(0, .ref 95), (1, .ref 46), (2, .int x2), (3, .int x3), (4, .int x4), (5, .int j5)] [] S R _
        refine u_st rfl (fun _ => rfl) ?_
        refine u_st rfl (fun _ => rfl) ?_
        show u_P L xs m d m_X2_readRow 31 [(0, .ref 95), (1, .ref 46), (2, .int x2), (3, .int x3), (4, .int x4), (5, .int j5)] [.int x4, .int x2] S R _
        refine u_cs (ac := [.int x2, .int x4]) (rest := []) rfl (by decide) mt_X11_isIn (fun _ => rfl) (Nat.le_of_ble_eq_true rfl) (Nat.le_of_ble_eq_true rfl) (fun d' => c_X11_isIn L xs m d' x2 x4 S R) ?_
        rintro _ _ _ ⟨_, rfl, rfl, rfl, rfl⟩
        show u_P L xs m d m_X2_readRow 34 [(0, .ref 95), (1, .ref 46), (2, .int x2), (3, .int x3), (4, .int x4), (5, .int j5)] [.int (f_X11_isIn x2 x4)] S R _
        refine u_if_ne rfl (fun h2 => ?_) (fun h2 => ?_)
        · have hD := hD.1 h2
          show u_P L xs m d m_X2_readRow 40 [(0, .ref 95), (1, .ref 46), (2, .int x2), (3, .int x3), (4, .int x4), (5, .int j5)] [] S R _
          refine u_st rfl (fun _ => rfl) ?_
          refine u_st rfl (fun _ => rfl) ?_
          show u_P L xs m d m_X2_readRow 42 [(0, .ref 95), (1, .ref 46), (2, .int x2), (3, .int x3), (4, .int x4), (5, .int j5)] [.int x3, .ref 46] S R _
          refine u_cv (rest := []) rfl (by decide) mt_X8_at rfl rfl rfl rfl (Nat.le_of_ble_eq_true rfl) (Nat.le_of_ble_eq_true rfl) (Nat.le_of_ble_eq_true rfl) (fun d' => c_X8_at L xs m d' x3 S R) ?_
          rintro _ _ _ ⟨_, rfl, rfl, rfl, rfl⟩
          refine u_st rfl (fun _ => rfl) ?_
          refine u_st rfl (fun _ => rfl) ?_
          refine u_st rfl (fun _ => rfl) ?_
          refine u_st rfl (fun _ => rfl) ?_
          show u_P L xs m d m_X2_readRow 55 [(3, .int (x3 + (Int32.ofInt 1))), (5, .int (f_X8_at x3 S)), (0, .ref 95), (1, .ref 46), (2, .int x2), (4, .int x4)] [.int (Int32.ofInt 255), .int (f_X8_at x3 S)] S R _
          refine u_ic_ne rfl (fun h3 => ?_) (fun h3 => ?_)
          · have hD := hD.1 h3
            show u_P L xs m d m_X2_readRow 61 [(3, .int (x3 + (Int32.ofInt 1))), (5, .int (f_X8_at x3 S)), (0, .ref 95), (1, .ref 46), (2, .int x2), (4, .int x4)] [] S R _
            refine u_st rfl (fun _ => rfl) ?_
            show u_P L xs m d m_X2_readRow 63 [(3, .int (x3 + (Int32.ofInt 1))), (5, .int (f_X8_at x3 S)), (0, .ref 95), (1, .ref 46), (2, .int x2), (4, .int x4)] [.int (f_X8_at x3 S)] S R _
            refine u_if_lt rfl (fun h4 => ?_) (fun h4 => ?_)
            · have hD := hD.1 h4
              show u_P L xs m d m_X2_readRow 95 [(3, .int (x3 + (Int32.ofInt 1))), (5, .int (f_X8_at x3 S)), (0, .ref 95), (1, .ref 46), (2, .int x2), (4, .int x4)] [] S R _
              refine u_st rfl (fun _ => rfl) ?_
              show u_P L xs m d m_X2_readRow 96 [(3, .int (x3 + (Int32.ofInt 1))), (5, .int (f_X8_at x3 S)), (0, .ref 95), (1, .ref 46), (2, .int x2), (4, .int x4)] [.int (Int32.ofInt 0)] S R _
              exact u_retb rfl rfl ⟨_, rfl, rfl, hD⟩
            · have hD := hD.2 h4
              show u_P L xs m d m_X2_readRow 66 [(3, .int (x3 + (Int32.ofInt 1))), (5, .int (f_X8_at x3 S)), (0, .ref 95), (1, .ref 46), (2, .int x2), (4, .int x4)] [] S R _
              refine u_st rfl (fun _ => rfl) ?_
              refine u_st rfl (fun _ => rfl) ?_
              show u_P L xs m d m_X2_readRow 69 [(3, .int (x3 + (Int32.ofInt 1))), (5, .int (f_X8_at x3 S)), (0, .ref 95), (1, .ref 46), (2, .int x2), (4, .int x4)] [.int (Int32.ofInt 5), .int (f_X8_at x3 S)] S R _
              refine u_ic_ge rfl (fun h5 => ?_) (fun h5 => ?_)
              · have hD := hD.1 h5
                show u_P L xs m d m_X2_readRow 95 [(3, .int (x3 + (Int32.ofInt 1))), (5, .int (f_X8_at x3 S)), (0, .ref 95), (1, .ref 46), (2, .int x2), (4, .int x4)] [] S R _
                refine u_st rfl (fun _ => rfl) ?_
                show u_P L xs m d m_X2_readRow 96 [(3, .int (x3 + (Int32.ofInt 1))), (5, .int (f_X8_at x3 S)), (0, .ref 95), (1, .ref 46), (2, .int x2), (4, .int x4)] [.int (Int32.ofInt 0)] S R _
                exact u_retb rfl rfl ⟨_, rfl, rfl, hD⟩
              · have hD := hD.2 h5
                show u_P L xs m d m_X2_readRow 72 [(3, .int (x3 + (Int32.ofInt 1))), (5, .int (f_X8_at x3 S)), (0, .ref 95), (1, .ref 46), (2, .int x2), (4, .int x4)] [] S R _
                refine u_st rfl (fun _ => rfl) ?_
                show u_P L xs m d m_X2_readRow 73 [(3, .int (x3 + (Int32.ofInt 1))), (5, .int (f_X8_at x3 S)), (0, .ref 95), (1, .ref 46), (2, .int x2), (4, .int x4)] [.ref 95] S R _
                refine u_getE (v := S 94 0) rfl rfl rfl rfl ?_
                refine u_st rfl (fun _ => rfl) ?_
                show u_P L xs m d m_X2_readRow 78 [(3, .int (x3 + (Int32.ofInt 1))), (5, .int (f_X8_at x3 S)), (0, .ref 95), (1, .ref 46), (2, .int x2), (4, .int x4)] [.int (f_X8_at x3 S), .int (S 94 0)] S R _
                refine u_cs (ac := [.int (S 94 0), .int (f_X8_at x3 S)]) (rest := []) rfl (by decide) mt_X11_isIn (fun _ => rfl) (Nat.le_of_ble_eq_true rfl) (Nat.le_of_ble_eq_true rfl) (fun d' => c_X11_isIn L xs m d' (S 94 0) (f_X8_at x3 S) S R) ?_
                rintro _ _ _ ⟨_, rfl, rfl, rfl, rfl⟩
                show u_P L xs m d m_X2_readRow 81 [(3, .int (x3 + (Int32.ofInt 1))), (5, .int (f_X8_at x3 S)), (0, .ref 95), (1, .ref 46), (2, .int x2), (4, .int x4)] [.int (f_X11_isIn (S 94 0) (f_X8_at x3 S))] S R _
                refine u_if_eq rfl (fun h6 => ?_) (fun h6 => ?_)
                · have hD := hD.1 h6
                  show u_P L xs m d m_X2_readRow 95 [(3, .int (x3 + (Int32.ofInt 1))), (5, .int (f_X8_at x3 S)), (0, .ref 95), (1, .ref 46), (2, .int x2), (4, .int x4)] [] S R _
                  refine u_st rfl (fun _ => rfl) ?_
                  show u_P L xs m d m_X2_readRow 96 [(3, .int (x3 + (Int32.ofInt 1))), (5, .int (f_X8_at x3 S)), (0, .ref 95), (1, .ref 46), (2, .int x2), (4, .int x4)] [.int (Int32.ofInt 0)] S R _
                  exact u_retb rfl rfl ⟨_, rfl, rfl, hD⟩
                · have hD := hD.2 h6
                  show u_P L xs m d m_X2_readRow 84 [(3, .int (x3 + (Int32.ofInt 1))), (5, .int (f_X8_at x3 S)), (0, .ref 95), (1, .ref 46), (2, .int x2), (4, .int x4)] [] S R _
                  refine u_st rfl (fun _ => rfl) ?_
                  show u_P L xs m d m_X2_readRow 85 [(3, .int (x3 + (Int32.ofInt 1))), (5, .int (f_X8_at x3 S)), (0, .ref 95), (1, .ref 46), (2, .int x2), (4, .int x4)] [.ref 95] S R _
                  refine u_getr rfl rfl rfl ?_
                  refine u_st rfl (fun _ => rfl) ?_
                  show u_P L xs m d m_X2_readRow 90 [(3, .int (x3 + (Int32.ofInt 1))), (5, .int (f_X8_at x3 S)), (0, .ref 95), (1, .ref 46), (2, .int x2), (4, .int x4)] [.int (f_X8_at x3 S), .ref 99] S R _
                  refine u_ialdE (v := S 98 ((f_X8_at x3 S).toInt.toNat)) rfl rfl rfl (fun b71 b72 => ?_)
                  have hD := hD b71 b72
                  show u_P L xs m d m_X2_readRow 91 [(3, .int (x3 + (Int32.ofInt 1))), (5, .int (f_X8_at x3 S)), (0, .ref 95), (1, .ref 46), (2, .int x2), (4, .int x4)] [.int (S 98 ((f_X8_at x3 S).toInt.toNat))] S R _
                  refine u_st rfl (fun _ => rfl) ?_
                  show u_P L xs m d m_X2_readRow 92 [(3, .int (x3 + (Int32.ofInt 1))), (5, .int (f_X8_at x3 S)), (0, .ref 95), (1, .ref 46), (2, .int x2), (4, .int x4)] [.int (Int32.ofInt (-1)), .int (S 98 ((f_X8_at x3 S).toInt.toNat))] S R _
                  refine u_ic_eq rfl (fun h8 => ?_) (fun h8 => ?_)
                  · have hD := hD.1 h8
                    show u_P L xs m d m_X2_readRow 97 [(3, .int (x3 + (Int32.ofInt 1))), (5, .int (f_X8_at x3 S)), (0, .ref 95), (1, .ref 46), (2, .int x2), (4, .int x4)] [] S R _
                    refine u_st rfl (fun _ => rfl) ?_
                    show u_P L xs m d m_X2_readRow 98 [(3, .int (x3 + (Int32.ofInt 1))), (5, .int (f_X8_at x3 S)), (0, .ref 95), (1, .ref 46), (2, .int x2), (4, .int x4)] [.ref 95] S R _
                    refine u_getr rfl rfl rfl ?_
                    refine u_st rfl (fun _ => rfl) ?_
                    refine u_st rfl (fun _ => rfl) ?_
                    show u_P L xs m d m_X2_readRow 105 [(3, .int (x3 + (Int32.ofInt 1))), (5, .int (f_X8_at x3 S)), (0, .ref 95), (1, .ref 46), (2, .int x2), (4, .int x4)] [.int (f_X8_at x3 S), .int x4, .ref 98] S R _
                    refine u_iast rfl rfl (fun b91 b92 => ?_)
                    have hD := hD b91 b92
                    show u_P L xs m d m_X2_readRow 106 [(3, .int (x3 + (Int32.ofInt 1))), (5, .int (f_X8_at x3 S)), (0, .ref 95), (1, .ref 46), (2, .int x2), (4, .int x4)] [] (z_s S 97 x4.toInt.toNat (f_X8_at x3 S)) R _
                    refine u_st rfl (fun _ => rfl) ?_
                    show u_P L xs m d m_X2_readRow 107 [(3, .int (x3 + (Int32.ofInt 1))), (5, .int (f_X8_at x3 S)), (0, .ref 95), (1, .ref 46), (2, .int x2), (4, .int x4)] [.ref 95] (z_s S 97 x4.toInt.toNat (f_X8_at x3 S)) R _
                    refine u_getr rfl rfl rfl ?_
                    refine u_st rfl (fun _ => rfl) ?_
                    refine u_st rfl (fun _ => rfl) ?_
                    show u_P L xs m d m_X2_readRow 114 [(3, .int (x3 + (Int32.ofInt 1))), (5, .int (f_X8_at x3 S)), (0, .ref 95), (1, .ref 46), (2, .int x2), (4, .int x4)] [.int x4, .int (f_X8_at x3 S), .ref 99] (z_s S 97 x4.toInt.toNat (f_X8_at x3 S)) R _
                    refine u_iast rfl rfl (fun b101 b102 => ?_)
                    have hD := hD b101 b102
                    show u_P L xs m d m_X2_readRow 115 [(3, .int (x3 + (Int32.ofInt 1))), (5, .int (f_X8_at x3 S)), (0, .ref 95), (1, .ref 46), (2, .int x2), (4, .int x4)] [] (z_s (z_s S 97 x4.toInt.toNat (f_X8_at x3 S)) 98 ((f_X8_at x3 S).toInt.toNat) x4) R _
                    refine u_st rfl (fun _ => rfl) ?_
                    refine u_st rfl (fun _ => rfl) ?_
                    refine u_lc (b := [(0, .ref 95), (1, .ref 46), (2, .int x2), (3, .int (x3 + (Int32.ofInt 1))), (4, .int (x4 + (Int32.ofInt 1))), (5, .int (f_X8_at x3 S))]) (show ([4, 3, 5, 0, 1, 2] : List Nat).Nodup by decide) (show ([0, 1, 2, 3, 4, 5] : List Nat).Nodup by decide) (fun i => match i with | 0 => rfl | 1 => rfl | 2 => rfl | 3 => rfl | 4 => rfl | 5 => rfl | _ + 6 => rfl) ?_
                    exact (ih m hm).2 d (f_X8_at x3 S) x2 (x3 + (Int32.ofInt 1)) (x4 + (Int32.ofInt 1)) (z_s (z_s S 97 x4.toInt.toNat (f_X8_at x3 S)) 98 ((f_X8_at x3 S).toInt.toNat) x4) hD
                  · have hD := hD.2 h8
                    show u_P L xs m d m_X2_readRow 95 [(3, .int (x3 + (Int32.ofInt 1))), (5, .int (f_X8_at x3 S)), (0, .ref 95), (1, .ref 46), (2, .int x2), (4, .int x4)] [] S R _
                    refine u_st rfl (fun _ => rfl) ?_
                    show u_P L xs m d m_X2_readRow 96 [(3, .int (x3 + (Int32.ofInt 1))), (5, .int (f_X8_at x3 S)), (0, .ref 95), (1, .ref 46), (2, .int x2), (4, .int x4)] [.int (Int32.ofInt 0)] S R _
                    exact u_retb rfl rfl ⟨_, rfl, rfl, hD⟩
          · have hD := hD.2 h3
            show u_P L xs m d m_X2_readRow 58 [(3, .int (x3 + (Int32.ofInt 1))), (5, .int (f_X8_at x3 S)), (0, .ref 95), (1, .ref 46), (2, .int x2), (4, .int x4)] [] S R _
            refine u_st rfl (fun _ => rfl) ?_
            refine u_st rfl (fun _ => rfl) ?_
            refine u_st rfl (fun _ => rfl) ?_
            refine u_lc (b := [(0, .ref 95), (1, .ref 46), (2, .int x2), (3, .int (x3 + (Int32.ofInt 1))), (4, .int (x4 + (Int32.ofInt 1))), (5, .int (f_X8_at x3 S))]) (show ([4, 3, 5, 0, 1, 2] : List Nat).Nodup by decide) (show ([0, 1, 2, 3, 4, 5] : List Nat).Nodup by decide) (fun i => match i with | 0 => rfl | 1 => rfl | 2 => rfl | 3 => rfl | 4 => rfl | 5 => rfl | _ + 6 => rfl) ?_
            exact (ih m hm).2 d (f_X8_at x3 S) x2 (x3 + (Int32.ofInt 1)) (x4 + (Int32.ofInt 1)) S hD
        · have hD := hD.2 h2
          show u_P L xs m d m_X2_readRow 37 [(0, .ref 95), (1, .ref 46), (2, .int x2), (3, .int x3), (4, .int x4), (5, .int j5)] [] S R _
          refine u_st rfl (fun _ => rfl) ?_
          refine u_st rfl (fun _ => rfl) ?_
          refine u_st rfl (fun _ => rfl) ?_
          refine u_lc (b := [(0, .ref 95), (1, .ref 46), (2, .int x2), (3, .int x3), (4, .int (x4 + (Int32.ofInt 1))), (5, .int j5)]) (show ([4, 0, 1, 2, 3, 5] : List Nat).Nodup by decide) (show ([0, 1, 2, 3, 4, 5] : List Nat).Nodup by decide) (fun i => match i with | 0 => rfl | 1 => rfl | 2 => rfl | 3 => rfl | 4 => rfl | 5 => rfl | _ + 6 => rfl) ?_
          exact (ih m hm).2 d j5 x2 x3 (x4 + (Int32.ofInt 1)) S hD
set_option maxRecDepth 4000 in
theorem w_X2_readRow (L : Nat) (xs : Nat → Int32) {R : v_Rf} (a : Int32) (H21 : Int32 → Int32 → Int32 → v_Sf → Prop) (K : Int32 → v_Sf → Prop) (k21 : ∀ (x2 : Int32) (x3 : Int32) (x4 : Int32) (S : v_Sf), H21 x2 x3 x4 S → D_X2_readRow_21 H21 K x2 x3 x4 S) (n d : Nat) (S : v_Sf) (hD : D_X2_readRow a H21 K S) : u_P L xs n d m_X2_readRow 0 (lv_args 0 [.ref 95, .ref 46, .int a]) [] S R (z_Q R K) := by
  unfold D_X2_readRow at hD
  show u_P L xs n d m_X2_readRow 0 [(0, .ref 95), (1, .ref 46), (2, .int a)] [] S R _
  refine u_st rfl (fun _ => rfl) ?_
  show u_P L xs n d m_X2_readRow 1 [(0, .ref 95), (1, .ref 46), (2, .int a)] [.ref 95] S R _
  refine u_getr rfl rfl rfl ?_
  refine u_st rfl (fun _ => rfl) ?_
  show u_P L xs n d m_X2_readRow 5 [(0, .ref 95), (1, .ref 46), (2, .int a)] [.int (Int32.ofInt (-1)), .ref 98] S R _
  refine u_cs (ac := [.ref 98, .int (Int32.ofInt (-1))]) (rest := []) rfl (by decide) mt_J7_fill_53178 (fun _ => rfl) (Nat.le_of_ble_eq_true rfl) (Nat.le_of_ble_eq_true rfl) (fun d' => c_fill97 L xs n d' (Int32.ofInt (-1)) S R) ?_
  rintro _ _ _ ⟨rfl, rfl, rfl⟩
  refine u_st rfl (fun _ => rfl) ?_
  show u_P L xs n d m_X2_readRow 9 [(0, .ref 95), (1, .ref 46), (2, .int a)] [.ref 95] (g_fill97 (Int32.ofInt (-1)) S) R _
  refine u_getr rfl rfl rfl ?_
  refine u_st rfl (fun _ => rfl) ?_
  show u_P L xs n d m_X2_readRow 13 [(0, .ref 95), (1, .ref 46), (2, .int a)] [.int (Int32.ofInt (-1)), .ref 99] (g_fill97 (Int32.ofInt (-1)) S) R _
  refine u_cs (ac := [.ref 99, .int (Int32.ofInt (-1))]) (rest := []) rfl (by decide) mt_J7_fill_53178 (fun _ => rfl) (Nat.le_of_ble_eq_true rfl) (Nat.le_of_ble_eq_true rfl) (fun d' => c_fill98 L xs n d' (Int32.ofInt (-1)) (g_fill97 (Int32.ofInt (-1)) S) R) ?_
  rintro _ _ _ ⟨rfl, rfl, rfl⟩
  refine u_st rfl (fun _ => rfl) ?_
  refine u_st rfl (fun _ => rfl) ?_
  refine u_st rfl (fun _ => rfl) ?_
  refine u_st rfl (fun _ => rfl) ?_
  refine u_lc (b := [(0, .ref 95), (1, .ref 46), (2, .int a), (3, .int (Int32.ofInt 0)), (4, .int (Int32.ofInt 0))]) (show ([4, 3, 0, 1, 2] : List Nat).Nodup by decide) (show ([0, 1, 2, 3, 4] : List Nat).Nodup by decide) (fun i => match i with | 0 => rfl | 1 => rfl | 2 => rfl | 3 => rfl | 4 => rfl | _ + 5 => rfl) ?_
  exact (hd_X2_readRow L xs a H21 K k21 n).1 d a (Int32.ofInt 0) (Int32.ofInt 0) (g_fill98 (Int32.ofInt (-1)) (g_fill97 (Int32.ofInt (-1)) S)) hD
noncomputable def r_X2_readRow_21 (x2 : Int32) : Nat → Nat → Int32 → v_Sf → Int32 × v_Sf
  | 0, k21, x3, S => (Int32.ofInt 1, S)
  | r + 1, k21, x3, S => (if ¬ (f_X11_isIn x2 (z_i k21)) = 0 then (if ¬ (f_X8_at x3 S) = (Int32.ofInt 255) then (if (f_X8_at x3 S) < 0 then (Int32.ofInt 0, S) else (if (Int32.ofInt 5) ≤ (f_X8_at x3 S) then (Int32.ofInt 0, S) else (if (f_X11_isIn (S 94 0) (f_X8_at x3 S)) = 0 then (Int32.ofInt 0, S) else (if (S 98 ((f_X8_at x3 S).toInt.toNat)) = (Int32.ofInt (-1)) then r_X2_readRow_21 x2 r (k21 + 1) (x3 + (Int32.ofInt 1)) (z_s (z_s S 97 (z_i k21).toInt.toNat (f_X8_at x3 S)) 98 ((f_X8_at x3 S).toInt.toNat) (z_i k21)) else (Int32.ofInt 0, S))))) else r_X2_readRow_21 x2 r (k21 + 1) (x3 + (Int32.ofInt 1)) S) else r_X2_readRow_21 x2 r (k21 + 1) x3 S)
noncomputable def F_X2_readRow (a : Int32) (S : v_Sf) : Int32 × v_Sf := r_X2_readRow_21 a (12 - 0) 0 (Int32.ofInt 0) (g_fill98 (Int32.ofInt (-1)) (g_fill97 (Int32.ofInt (-1)) S))
noncomputable def f_X2_readRow (a : Int32) (S : v_Sf) : Int32 := (F_X2_readRow a S).1
noncomputable def g_X2_readRow (a : Int32) (S : v_Sf) : v_Sf := (F_X2_readRow a S).2
theorem c_X2_readRow (L : Nat) (xs : Nat → Int32) (n d : Nat) (a : Int32) (S : v_Sf) (R : v_Rf) : u_P L xs n d m_X2_readRow 0 (lv_args 0 [.ref 95, .ref 46, .int a]) [] S R (z_Q R (fun v S1 => f_X2_readRow a S = v ∧ g_X2_readRow a S = S1)) := by
  refine w_X2_readRow L xs a (fun y2 y3 y4 T => ∃ (k21 : Nat), k21 ≤ 12 ∧ z_i k21 = y4 ∧ a = y2 ∧ r_X2_readRow_21 a (12 - k21) k21 y3 T = F_X2_readRow a S) (fun v S1 => f_X2_readRow a S = v ∧ g_X2_readRow a S = S1) ?_ n d S ?_
  · rintro _ x3 _ S1 ⟨k21, hkk, rfl, rfl, e⟩
    unfold D_X2_readRow_21
    rcases Nat.lt_or_ge k21 (12) with hk | hk
    · rw [show 12 - k21 = (12 - (k21 + 1)) + 1 by omega, r_X2_readRow_21] at e
      refine ⟨fun q1 => ?_, fun q1 => ?_⟩
      · exact absurd hk (Nat.not_lt.mpr (z_leB2 (B := 12) q1 (by decide) (by omega)))
      · refine ⟨fun q2 => ?_, fun q2 => ?_⟩
        · refine ⟨fun q3 => ?_, fun q3 => ?_⟩
          · refine ⟨fun q4 => ?_, fun q4 => ?_⟩
            · rw [if_pos q2, if_pos q3, if_pos q4] at e
              have e1 := congrArg Prod.fst e.symm
              have e2 := congrArg Prod.snd e.symm
              exact ⟨e1, e2⟩
            · refine ⟨fun q5 => ?_, fun q5 => ?_⟩
              · rw [if_pos q2, if_pos q3, if_neg q4, if_pos q5] at e
                have e1 := congrArg Prod.fst e.symm
                have e2 := congrArg Prod.snd e.symm
                exact ⟨e1, e2⟩
              · refine ⟨fun q6 => ?_, fun q6 => ?_⟩
                · rw [if_pos q2, if_pos q3, if_neg q4, if_neg q5, if_pos q6] at e
                  have e1 := congrArg Prod.fst e.symm
                  have e2 := congrArg Prod.snd e.symm
                  exact ⟨e1, e2⟩
                · intro _ _
                  refine ⟨fun q7 => ?_, fun q7 => ?_⟩
                  · intro _ _
                    intro _ _
                    rw [if_pos q2, if_pos q3, if_neg q4, if_neg q5, if_neg q6, if_pos q7] at e
                    exact ⟨(k21 + 1), by omega, (z_i1 k21).symm, rfl, e⟩
                  · rw [if_pos q2, if_pos q3, if_neg q4, if_neg q5, if_neg q6, if_neg q7] at e
                    have e1 := congrArg Prod.fst e.symm
                    have e2 := congrArg Prod.snd e.symm
                    exact ⟨e1, e2⟩
          · rw [if_pos q2, if_neg q3] at e
            exact ⟨(k21 + 1), by omega, (z_i1 k21).symm, rfl, e⟩
        · rw [if_neg q2] at e
          exact ⟨(k21 + 1), by omega, (z_i1 k21).symm, rfl, e⟩
    · rw [show 12 - k21 = 0 by omega, r_X2_readRow_21] at e
      refine ⟨fun q8 => ?_, fun q8 => ?_⟩
      · have e1 := congrArg Prod.fst e.symm
        have e2 := congrArg Prod.snd e.symm
        exact ⟨e1, e2⟩
      · exact absurd hk (Nat.not_le.mpr (z_ltB2 (B := 12) q8 (by decide) (by omega)))
  · unfold D_X2_readRow
    have e : r_X2_readRow_21 a (12 - 0) 0 (Int32.ofInt 0) (g_fill98 (Int32.ofInt (-1)) (g_fill97 (Int32.ofInt (-1)) S)) = F_X2_readRow a S := by rw [F_X2_readRow]
    exact ⟨0, by omega, rfl, rfl, e⟩
noncomputable abbrev m_X2_envious : g_M := (g_cn 2, yX2_envious, cX2_envious, 7, (some .int), g_look2 ttX2_envious)
set_option maxRecDepth 20000 in
theorem mt_X2_envious : g_mt 25 = some m_X2_envious := rfl
noncomputable def D_X2_envious_5  (H5 : Int32 → Int32 → Int32 → v_Sf → Prop) (H15 : Int32 → Int32 → Int32 → Int32 → v_Sf → Prop) (K : Int32 → v_Sf → Prop) (x2 : Int32) (x3 : Int32) (x4 : Int32) (S : v_Sf) : Prop := (((Int32.ofInt 12) ≤ x4 → K x3 S) ∧ (¬ ((Int32.ofInt 12) ≤ x4) → H15 x2 x3 x4 (Int32.ofInt 0) S))
noncomputable def D_X2_envious_15  (H5 : Int32 → Int32 → Int32 → v_Sf → Prop) (H15 : Int32 → Int32 → Int32 → Int32 → v_Sf → Prop) (K : Int32 → v_Sf → Prop) (x2 : Int32) (x3 : Int32) (x4 : Int32) (x5 : Int32) (S : v_Sf) : Prop := (((Int32.ofInt 5) ≤ x5 → H5 x2 x3 (x4 + (Int32.ofInt 1)) S) ∧ (¬ ((Int32.ofInt 5) ≤ x5) → (((f_X11_isIn x2 x4) = 0 → H15 x2 x3 x4 (x5 + (Int32.ofInt 1)) S) ∧ (¬ ((f_X11_isIn x2 x4) = 0) → (((f_X11_isIn (S 94 0) x5) = 0 → H15 x2 x3 x4 (x5 + (Int32.ofInt 1)) S) ∧ (¬ ((f_X11_isIn (S 94 0) x5) = 0) → (0 ≤ x4.toInt → x4.toInt < 12 → (((S 97 x4.toInt.toNat) = x5 → H15 x2 x3 x4 (x5 + (Int32.ofInt 1)) S) ∧ (¬ ((S 97 x4.toInt.toNat) = x5) → (0 ≤ x4.toInt → x4.toInt < 12 → (((f_X2_higher x5 (S 97 x4.toInt.toNat) S) = 0 → H15 x2 x3 x4 (x5 + (Int32.ofInt 1)) S) ∧ (¬ ((f_X2_higher x5 (S 97 x4.toInt.toNat) S) = 0) → (0 ≤ x5.toInt → x5.toInt < 5 → (((f_X2_dearer x5 x4 (S 98 x5.toInt.toNat) S) = 0 → H15 x2 x3 x4 (x5 + (Int32.ofInt 1)) S) ∧ (¬ ((f_X2_dearer x5 x4 (S 98 x5.toInt.toNat) S) = 0) → H15 x2 (x3 + (Int32.ofInt 1)) x4 (x5 + (Int32.ofInt 1)) S)))))))))))))))
noncomputable def D_X2_envious (a : Int32) (H5 : Int32 → Int32 → Int32 → v_Sf → Prop) (H15 : Int32 → Int32 → Int32 → Int32 → v_Sf → Prop) (K : Int32 → v_Sf → Prop) (S : v_Sf) : Prop := H5 a (Int32.ofInt 0) (Int32.ofInt 0) S
set_option maxRecDepth 4000 in
theorem hd_X2_envious (L : Nat) (xs : Nat → Int32) {R : v_Rf} (a : Int32) (H5 : Int32 → Int32 → Int32 → v_Sf → Prop) (H15 : Int32 → Int32 → Int32 → Int32 → v_Sf → Prop) (K : Int32 → v_Sf → Prop) (k5 : ∀ (x2 : Int32) (x3 : Int32) (x4 : Int32) (S : v_Sf), H5 x2 x3 x4 S → D_X2_envious_5 H5 H15 K x2 x3 x4 S) (k15 : ∀ (x2 : Int32) (x3 : Int32) (x4 : Int32) (x5 : Int32) (S : v_Sf), H15 x2 x3 x4 x5 S → D_X2_envious_15 H5 H15 K x2 x3 x4 x5 S) : ∀ n, (∀ (d : Nat) (x2 : Int32) (x3 : Int32) (x4 : Int32) (S : v_Sf), H5 x2 x3 x4 S → u_P L xs n d m_X2_envious 5 [(0, .ref 95), (1, .ref 2), (2, .int x2), (3, .int x3), (4, .int x4)] [] S R (z_Q R K)) ∧ (∀ (d : Nat) (j5 : Int32) (x2 : Int32) (x3 : Int32) (x4 : Int32) (S : v_Sf), H5 x2 x3 x4 S → u_P L xs n d m_X2_envious 5 [(0, .ref 95), (1, .ref 2), (2, .int x2), (3, .int x3), (4, .int x4), (5, .int j5)] [] S R (z_Q R K)) ∧ (∀ (d : Nat) (j5 : Int32) (j6 : Int32) (x2 : Int32) (x3 : Int32) (x4 : Int32) (S : v_Sf), H5 x2 x3 x4 S → u_P L xs n d m_X2_envious 5 [(0, .ref 95), (1, .ref 2), (2, .int x2), (3, .int x3), (4, .int x4), (5, .int j5), (6, .int j6)] [] S R (z_Q R K)) ∧ (∀ (d : Nat) (x2 : Int32) (x3 : Int32) (x4 : Int32) (x5 : Int32) (S : v_Sf), H15 x2 x3 x4 x5 S → u_P L xs n d m_X2_envious 15 [(0, .ref 95), (1, .ref 2), (2, .int x2), (3, .int x3), (4, .int x4), (5, .int x5)] [] S R (z_Q R K)) ∧ (∀ (d : Nat) (j6 : Int32) (x2 : Int32) (x3 : Int32) (x4 : Int32) (x5 : Int32) (S : v_Sf), H15 x2 x3 x4 x5 S → u_P L xs n d m_X2_envious 15 [(0, .ref 95), (1, .ref 2), (2, .int x2), (3, .int x3), (4, .int x4), (5, .int x5), (6, .int j6)] [] S R (z_Q R K)) := by
  intro n
  induction n using Nat.strongRecOn with
  | ind n ih =>
    refine ⟨?_, ?_, ?_, ?_, ?_⟩
    · intro d x2 x3 x4 S hD
      have hD := k5 x2 x3 x4 S hD
      unfold D_X2_envious_5 at hD
      show u_P L xs n d m_X2_envious 5 [(0, .ref 95), (1, .ref 2), (2, .int x2), (3, .int x3), (4, .int x4)] [] S R _
      refine u_st1 rfl (fun _ => rfl) (fun m hm => ?_)
      refine u_st rfl (fun _ => rfl) ?_
      show u_P L xs m d m_X2_envious 9 [(0, .ref 95), (1, .ref 2), (2, .int x2), (3, .int x3), (4, .int x4)] [.int (Int32.ofInt 12), .int x4] S R _
      refine u_ic_ge rfl (fun h1 => ?_) (fun h1 => ?_)
      · have hD := hD.1 h1
        show u_P L xs m d m_X2_envious 116 [(0, .ref 95), (1, .ref 2), (2, .int x2), (3, .int x3), (4, .int x4)] [] S R _
        refine u_st rfl (fun _ => rfl) ?_
        show u_P L xs m d m_X2_envious 117 [(0, .ref 95), (1, .ref 2), (2, .int x2), (3, .int x3), (4, .int x4)] [.int x3] S R _
        exact u_ret rfl rfl ⟨_, rfl, rfl, hD⟩
      · have hD := hD.2 h1
        show u_P L xs m d m_X2_envious 12 [(0, .ref 95), (1, .ref 2), (2, .int x2), (3, .int x3), (4, .int x4)] [] S R _
        refine u_st rfl (fun _ => rfl) ?_
        refine u_st rfl (fun _ => rfl) ?_
        refine u_lc (b := [(0, .ref 95), (1, .ref 2), (2, .int x2), (3, .int x3), (4, .int x4), (5, .int (Int32.ofInt 0))]) (show ([5, 0, 1, 2, 3, 4] : List Nat).Nodup by decide) (show ([0, 1, 2, 3, 4, 5] : List Nat).Nodup by decide) (fun i => match i with | 0 => rfl | 1 => rfl | 2 => rfl | 3 => rfl | 4 => rfl | 5 => rfl | _ + 6 => rfl) ?_
        exact (ih m hm).2.2.2.1 d x2 x3 x4 (Int32.ofInt 0) S hD
    · intro d j5 x2 x3 x4 S hD
      have hD := k5 x2 x3 x4 S hD
      unfold D_X2_envious_5 at hD
      show u_P L xs n d m_X2_envious 5 [(0, .ref 95), (1, .ref 2), (2, .int x2), (3, .int x3), (4, .int x4), (5, .int j5)] [] S R _
      refine u_st1 rfl (fun _ => rfl) (fun m hm => ?_)
      refine u_st rfl (fun _ => rfl) ?_
      show u_P L xs m d m_X2_envious 9 [(0, .ref 95), (1, .ref 2), (2, .int x2), (3, .int x3), (4, .int x4), (5, .int j5)] [.int (Int32.ofInt 12), .int x4] S R _
      refine u_ic_ge rfl (fun h1 => ?_) (fun h1 => ?_)
      · have hD := hD.1 h1
        show u_P L xs m d m_X2_envious 116 [(0, .ref 95), (1, .ref 2), (2, .int x2), (3, .int x3), (4, .int x4), (5, .int j5)] [] S R _
        refine u_st rfl (fun _ => rfl) ?_
        show u_P L xs m d m_X2_envious 117 [(0, .ref 95), (1, .ref 2), (2, .int x2), (3, .int x3), (4, .int x4), (5, .int j5)] [.int x3] S R _
        exact u_ret rfl rfl ⟨_, rfl, rfl, hD⟩
      · have hD := hD.2 h1
        show u_P L xs m d m_X2_envious 12 [(0, .ref 95), (1, .ref 2), (2, .int x2), (3, .int x3), (4, .int x4), (5, .int j5)] [] S R _
        refine u_st rfl (fun _ => rfl) ?_
        refine u_st rfl (fun _ => rfl) ?_
        refine u_lc (b := [(0, .ref 95), (1, .ref 2), (2, .int x2), (3, .int x3), (4, .int x4), (5, .int (Int32.ofInt 0))]) (show ([5, 0, 1, 2, 3, 4] : List Nat).Nodup by decide) (show ([0, 1, 2, 3, 4, 5] : List Nat).Nodup by decide) (fun i => match i with | 0 => rfl | 1 => rfl | 2 => rfl | 3 => rfl | 4 => rfl | 5 => rfl | _ + 6 => rfl) ?_
        exact (ih m hm).2.2.2.1 d x2 x3 x4 (Int32.ofInt 0) S hD
    · intro d j5 j6 x2 x3 x4 S hD
      have hD := k5 x2 x3 x4 S hD
      unfold D_X2_envious_5 at hD
      show u_P L xs n d m_X2_envious 5 [(0, .ref 95), (1, .ref 2), (2, .int x2), (3, .int x3), (4, .int x4), (5, .int j5), (6, .int j6)] [] S R _
      refine u_st1 rfl (fun _ => rfl) (fun m hm => ?_)
      refine u_st rfl (fun _ => rfl) ?_
      show u_P L xs m d m_X2_envious 9 [(0, .ref 95), (1, .ref 2), (2, .int x2), (3, .int x3), (4, .int x4), (5, .int j5), (6, .int j6)] [.int (Int32.ofInt 12), .int x4] S R _
      refine u_ic_ge rfl (fun h1 => ?_) (fun h1 => ?_)
      · have hD := hD.1 h1
        show u_P L xs m d m_X2_envious 116 [(0, .ref 95), (1, .ref 2), (2, .int x2), (3, .int x3), (4, .int x4), (5, .int j5), (6, .int j6)] [] S R _
        refine u_st rfl (fun _ => rfl) ?_
        show u_P L xs m d m_X2_envious 117 [(0, .ref 95), (1, .ref 2), (2, .int x2), (3, .int x3), (4, .int x4), (5, .int j5), (6, .int j6)] [.int x3] S R _
        exact u_ret rfl rfl ⟨_, rfl, rfl, hD⟩
      · have hD := hD.2 h1
        show u_P L xs m d m_X2_envious 12 [(0, .ref 95), (1, .ref 2), (2, .int x2), (3, .int x3), (4, .int x4), (5, .int j5), (6, .int j6)] [] S R _
        refine u_st rfl (fun _ => rfl) ?_
        refine u_st rfl (fun _ => rfl) ?_
        refine u_lc (b := [(0, .ref 95), (1, .ref 2), (2, .int x2), (3, .int x3), (4, .int x4), (5, .int (Int32.ofInt 0)), (6, .int j6)]) (show ([5, 0, 1, 2, 3, 4, 6] : List Nat).Nodup by decide) (show ([0, 1, 2, 3, 4, 5, 6] : List Nat).Nodup by decide) (fun i => match i with | 0 => rfl | 1 => rfl | 2 => rfl | 3 => rfl | 4 => rfl | 5 => rfl | 6 => rfl | _ + 7 => rfl) ?_
        exact (ih m hm).2.2.2.2 d j6 x2 x3 x4 (Int32.ofInt 0) S hD
    · intro d x2 x3 x4 x5 S hD
      have hD := k15 x2 x3 x4 x5 S hD
      unfold D_X2_envious_15 at hD
      show u_P L xs n d m_X2_envious 15 [(0, .ref 95), (1, .ref 2), (2, .int x2), (3, .int x3), (4, .int x4), (5, .int x5)] [] S R _
      refine u_st1 rfl (fun _ => rfl) (fun m hm => ?_)
      refine u_st rfl (fun _ => rfl) ?_
      show u_P L xs m d m_X2_envious 18 [(0, .ref 95), (1, .ref 2), (2, .int x2), (3, .int x3), (4, .int x4), (5, .int x5)] [.int (Int32.ofInt 5), .int x5] S R _
      refine u_ic_ge rfl (fun h1 => ?_) (fun h1 => ?_)
      · have hD := hD.1 h1
        show u_P L xs m d m_X2_envious 110 [(0, .ref 95), (1, .ref 2), (2, .int x2), (3, .int x3), (4, .int x4), (5, .int x5)] [] S R _
        refine u_st rfl (fun _ => rfl) ?_
        refine u_st rfl (fun _ => rfl) ?_
        refine u_lc (b := [(0, .ref 95), (1, .ref 2), (2, .int x2), (3, .int x3), (4, .int (x4 + (Int32.ofInt 1))), (5, .int x5)]) (show ([4, 0, 1, 2, 3, 5] : List Nat).Nodup by decide) (show ([0, 1, 2, 3, 4, 5] : List Nat).Nodup by decide) (fun i => match i with | 0 => rfl | 1 => rfl | 2 => rfl | 3 => rfl | 4 => rfl | 5 => rfl | _ + 6 => rfl) ?_
        exact (ih m hm).2.1 d x5 x2 x3 (x4 + (Int32.ofInt 1)) S hD
      · have hD := hD.2 h1
        show u_P L xs m d m_X2_envious 21 [(0, .ref 95), (1, .ref 2), (2, .int x2), (3, .int x3), (4, .int x4), (5, .int x5)] [] S R _
        refine u_st rfl (fun _ => rfl) ?_
        refine u_st rfl (fun _ => rfl) ?_
        show u_P L xs m d m_X2_envious 24 [(0, .ref 95), (1, .ref 2), (2, .int x2), (3, .int x3), (4, .int x4), (5, .int x5)] [.int x4, .int x2] S R _
        refine u_cs (ac := [.int x2, .int x4]) (rest := []) rfl (by decide) mt_X11_isIn (fun _ => rfl) (Nat.le_of_ble_eq_true rfl) (Nat.le_of_ble_eq_true rfl) (fun d' => c_X11_isIn L xs m d' x2 x4 S R) ?_
        rintro _ _ _ ⟨_, rfl, rfl, rfl, rfl⟩
        show u_P L xs m d m_X2_envious 27 [(0, .ref 95), (1, .ref 2), (2, .int x2), (3, .int x3), (4, .int x4), (5, .int x5)] [.int (f_X11_isIn x2 x4)] S R _
        refine u_if_eq rfl (fun h2 => ?_) (fun h2 => ?_)
        · have hD := hD.1 h2
          show u_P L xs m d m_X2_envious 58 [(0, .ref 95), (1, .ref 2), (2, .int x2), (3, .int x3), (4, .int x4), (5, .int x5)] [] S R _
          refine u_st rfl (fun _ => rfl) ?_
          refine u_st rfl (fun _ => rfl) ?_
          refine u_st rfl (fun _ => rfl) ?_
          show u_P L xs m d m_X2_envious 63 [(6, .int (Int32.ofInt 0)), (0, .ref 95), (1, .ref 2), (2, .int x2), (3, .int x3), (4, .int x4), (5, .int x5)] [.int (Int32.ofInt 0)] S R _
          refine u_st rfl (fun _ => rfl) ?_
          refine u_st rfl (fun _ => rfl) ?_
          refine u_st rfl (fun _ => rfl) ?_
          refine u_lc (b := [(0, .ref 95), (1, .ref 2), (2, .int x2), (3, .int x3), (4, .int x4), (5, .int (x5 + (Int32.ofInt 1))), (6, .int (Int32.ofInt 0))]) (show ([5, 6, 0, 1, 2, 3, 4] : List Nat).Nodup by decide) (show ([0, 1, 2, 3, 4, 5, 6] : List Nat).Nodup by decide) (fun i => match i with | 0 => rfl | 1 => rfl | 2 => rfl | 3 => rfl | 4 => rfl | 5 => rfl | 6 => rfl | _ + 7 => rfl) ?_
          exact (ih m hm).2.2.2.2 d (Int32.ofInt 0) x2 x3 x4 (x5 + (Int32.ofInt 1)) S hD
        · have hD := hD.2 h2
          show u_P L xs m d m_X2_envious 30 [(0, .ref 95), (1, .ref 2), (2, .int x2), (3, .int x3), (4, .int x4), (5, .int x5)] [] S R _
          refine u_st rfl (fun _ => rfl) ?_
          show u_P L xs m d m_X2_envious 31 [(0, .ref 95), (1, .ref 2), (2, .int x2), (3, .int x3), (4, .int x4), (5, .int x5)] [.ref 95] S R _
          refine u_getE (v := S 94 0) rfl rfl rfl rfl ?_
          refine u_st rfl (fun _ => rfl) ?_
          show u_P L xs m d m_X2_envious 36 [(0, .ref 95), (1, .ref 2), (2, .int x2), (3, .int x3), (4, .int x4), (5, .int x5)] [.int x5, .int (S 94 0)] S R _
          refine u_cs (ac := [.int (S 94 0), .int x5]) (rest := []) rfl (by decide) mt_X11_isIn (fun _ => rfl) (Nat.le_of_ble_eq_true rfl) (Nat.le_of_ble_eq_true rfl) (fun d' => c_X11_isIn L xs m d' (S 94 0) x5 S R) ?_
          rintro _ _ _ ⟨_, rfl, rfl, rfl, rfl⟩
          show u_P L xs m d m_X2_envious 39 [(0, .ref 95), (1, .ref 2), (2, .int x2), (3, .int x3), (4, .int x4), (5, .int x5)] [.int (f_X11_isIn (S 94 0) x5)] S R _
          refine u_if_eq rfl (fun h3 => ?_) (fun h3 => ?_)
          · have hD := hD.1 h3
            show u_P L xs m d m_X2_envious 58 [(0, .ref 95), (1, .ref 2), (2, .int x2), (3, .int x3), (4, .int x4), (5, .int x5)] [] S R _
            refine u_st rfl (fun _ => rfl) ?_
            refine u_st rfl (fun _ => rfl) ?_
            refine u_st rfl (fun _ => rfl) ?_
            show u_P L xs m d m_X2_envious 63 [(6, .int (Int32.ofInt 0)), (0, .ref 95), (1, .ref 2), (2, .int x2), (3, .int x3), (4, .int x4), (5, .int x5)] [.int (Int32.ofInt 0)] S R _
            refine u_st rfl (fun _ => rfl) ?_
            refine u_st rfl (fun _ => rfl) ?_
            refine u_st rfl (fun _ => rfl) ?_
            refine u_lc (b := [(0, .ref 95), (1, .ref 2), (2, .int x2), (3, .int x3), (4, .int x4), (5, .int (x5 + (Int32.ofInt 1))), (6, .int (Int32.ofInt 0))]) (show ([5, 6, 0, 1, 2, 3, 4] : List Nat).Nodup by decide) (show ([0, 1, 2, 3, 4, 5, 6] : List Nat).Nodup by decide) (fun i => match i with | 0 => rfl | 1 => rfl | 2 => rfl | 3 => rfl | 4 => rfl | 5 => rfl | 6 => rfl | _ + 7 => rfl) ?_
            exact (ih m hm).2.2.2.2 d (Int32.ofInt 0) x2 x3 x4 (x5 + (Int32.ofInt 1)) S hD
          · have hD := hD.2 h3
            show u_P L xs m d m_X2_envious 42 [(0, .ref 95), (1, .ref 2), (2, .int x2), (3, .int x3), (4, .int x4), (5, .int x5)] [] S R _
            refine u_st rfl (fun _ => rfl) ?_
            show u_P L xs m d m_X2_envious 43 [(0, .ref 95), (1, .ref 2), (2, .int x2), (3, .int x3), (4, .int x4), (5, .int x5)] [.ref 95] S R _
            refine u_getr rfl rfl rfl ?_
            refine u_st rfl (fun _ => rfl) ?_
            show u_P L xs m d m_X2_envious 48 [(0, .ref 95), (1, .ref 2), (2, .int x2), (3, .int x3), (4, .int x4), (5, .int x5)] [.int x4, .ref 98] S R _
            refine u_ialdE (v := S 97 x4.toInt.toNat) rfl rfl rfl (fun b41 b42 => ?_)
            have hD := hD b41 b42
            show u_P L xs m d m_X2_envious 49 [(0, .ref 95), (1, .ref 2), (2, .int x2), (3, .int x3), (4, .int x4), (5, .int x5)] [.int (S 97 x4.toInt.toNat)] S R _
            refine u_st rfl (fun _ => rfl) ?_
            show u_P L xs m d m_X2_envious 51 [(0, .ref 95), (1, .ref 2), (2, .int x2), (3, .int x3), (4, .int x4), (5, .int x5)] [.int x5, .int (S 97 x4.toInt.toNat)] S R _
            refine u_ic_eq rfl (fun h5 => ?_) (fun h5 => ?_)
            · have hD := hD.1 h5
              show u_P L xs m d m_X2_envious 58 [(0, .ref 95), (1, .ref 2), (2, .int x2), (3, .int x3), (4, .int x4), (5, .int x5)] [] S R _
              refine u_st rfl (fun _ => rfl) ?_
              refine u_st rfl (fun _ => rfl) ?_
              refine u_st rfl (fun _ => rfl) ?_
              show u_P L xs m d m_X2_envious 63 [(6, .int (Int32.ofInt 0)), (0, .ref 95), (1, .ref 2), (2, .int x2), (3, .int x3), (4, .int x4), (5, .int x5)] [.int (Int32.ofInt 0)] S R _
              refine u_st rfl (fun _ => rfl) ?_
              refine u_st rfl (fun _ => rfl) ?_
              refine u_st rfl (fun _ => rfl) ?_
              refine u_lc (b := [(0, .ref 95), (1, .ref 2), (2, .int x2), (3, .int x3), (4, .int x4), (5, .int (x5 + (Int32.ofInt 1))), (6, .int (Int32.ofInt 0))]) (show ([5, 6, 0, 1, 2, 3, 4] : List Nat).Nodup by decide) (show ([0, 1, 2, 3, 4, 5, 6] : List Nat).Nodup by decide) (fun i => match i with | 0 => rfl | 1 => rfl | 2 => rfl | 3 => rfl | 4 => rfl | 5 => rfl | 6 => rfl | _ + 7 => rfl) ?_
              exact (ih m hm).2.2.2.2 d (Int32.ofInt 0) x2 x3 x4 (x5 + (Int32.ofInt 1)) S hD
            · have hD := hD.2 h5
              show u_P L xs m d m_X2_envious 54 [(0, .ref 95), (1, .ref 2), (2, .int x2), (3, .int x3), (4, .int x4), (5, .int x5)] [] S R _
              refine u_st rfl (fun _ => rfl) ?_
              refine u_st rfl (fun _ => rfl) ?_
              refine u_st rfl (fun _ => rfl) ?_
              refine u_st rfl (fun _ => rfl) ?_
              show u_P L xs m d m_X2_envious 63 [(6, .int (Int32.ofInt 1)), (0, .ref 95), (1, .ref 2), (2, .int x2), (3, .int x3), (4, .int x4), (5, .int x5)] [.int (Int32.ofInt 1)] S R _
              refine u_st rfl (fun _ => rfl) ?_
              refine u_st rfl (fun _ => rfl) ?_
              refine u_st rfl (fun _ => rfl) ?_
              refine u_st rfl (fun _ => rfl) ?_
              show u_P L xs m d m_X2_envious 70 [(6, .int (Int32.ofInt 1)), (0, .ref 95), (1, .ref 2), (2, .int x2), (3, .int x3), (4, .int x4), (5, .int x5)] [.ref 95, .int x5, .ref 95] S R _
              refine u_getr rfl rfl rfl ?_
              refine u_st rfl (fun _ => rfl) ?_
              show u_P L xs m d m_X2_envious 75 [(6, .int (Int32.ofInt 1)), (0, .ref 95), (1, .ref 2), (2, .int x2), (3, .int x3), (4, .int x4), (5, .int x5)] [.int x4, .ref 98, .int x5, .ref 95] S R _
              refine u_ialdE (v := S 97 x4.toInt.toNat) rfl rfl rfl (fun b61 b62 => ?_)
              have hD := hD b61 b62
              show u_P L xs m d m_X2_envious 76 [(6, .int (Int32.ofInt 1)), (0, .ref 95), (1, .ref 2), (2, .int x2), (3, .int x3), (4, .int x4), (5, .int x5)] [.int (S 97 x4.toInt.toNat), .int x5, .ref 95] S R _
              refine u_cv (rest := []) rfl (by decide) mt_X2_higher rfl rfl rfl rfl (Nat.le_of_ble_eq_true rfl) (Nat.le_of_ble_eq_true rfl) (Nat.le_of_ble_eq_true rfl) (fun d' => c_X2_higher L xs m d' x5 (S 97 x4.toInt.toNat) S R) ?_
              rintro _ _ _ ⟨_, rfl, rfl, rfl, rfl⟩
              show u_P L xs m d m_X2_envious 79 [(6, .int (Int32.ofInt 1)), (0, .ref 95), (1, .ref 2), (2, .int x2), (3, .int x3), (4, .int x4), (5, .int x5)] [.int (f_X2_higher x5 (S 97 x4.toInt.toNat) S)] S R _
              refine u_if_eq rfl (fun h7 => ?_) (fun h7 => ?_)
              · have hD := hD.1 h7
                show u_P L xs m d m_X2_envious 104 [(6, .int (Int32.ofInt 1)), (0, .ref 95), (1, .ref 2), (2, .int x2), (3, .int x3), (4, .int x4), (5, .int x5)] [] S R _
                refine u_st rfl (fun _ => rfl) ?_
                refine u_st rfl (fun _ => rfl) ?_
                refine u_lc (b := [(0, .ref 95), (1, .ref 2), (2, .int x2), (3, .int x3), (4, .int x4), (5, .int (x5 + (Int32.ofInt 1))), (6, .int (Int32.ofInt 1))]) (show ([5, 6, 0, 1, 2, 3, 4] : List Nat).Nodup by decide) (show ([0, 1, 2, 3, 4, 5, 6] : List Nat).Nodup by decide) (fun i => match i with | 0 => rfl | 1 => rfl | 2 => rfl | 3 => rfl | 4 => rfl | 5 => rfl | 6 => rfl | _ + 7 => rfl) ?_
                exact (ih m hm).2.2.2.2 d (Int32.ofInt 1) x2 x3 x4 (x5 + (Int32.ofInt 1)) S hD
              · have hD := hD.2 h7
                show u_P L xs m d m_X2_envious 82 [(6, .int (Int32.ofInt 1)), (0, .ref 95), (1, .ref 2), (2, .int x2), (3, .int x3), (4, .int x4), (5, .int x5)] [] S R _
                refine u_st rfl (fun _ => rfl) ?_
                refine u_st rfl (fun _ => rfl) ?_
                refine u_st rfl (fun _ => rfl) ?_
                refine u_st rfl (fun _ => rfl) ?_
                refine u_st rfl (fun _ => rfl) ?_
                show u_P L xs m d m_X2_envious 89 [(6, .int (Int32.ofInt 1)), (0, .ref 95), (1, .ref 2), (2, .int x2), (3, .int x3), (4, .int x4), (5, .int x5)] [.ref 95, .int x4, .int x5, .ref 2, .ref 95] S R _
                refine u_getr rfl rfl rfl ?_
                refine u_st rfl (fun _ => rfl) ?_
                show u_P L xs m d m_X2_envious 94 [(6, .int (Int32.ofInt 1)), (0, .ref 95), (1, .ref 2), (2, .int x2), (3, .int x3), (4, .int x4), (5, .int x5)] [.int x5, .ref 99, .int x4, .int x5, .ref 2, .ref 95] S R _
                refine u_ialdE (v := S 98 x5.toInt.toNat) rfl rfl rfl (fun b81 b82 => ?_)
                have hD := hD b81 b82
                show u_P L xs m d m_X2_envious 95 [(6, .int (Int32.ofInt 1)), (0, .ref 95), (1, .ref 2), (2, .int x2), (3, .int x3), (4, .int x4), (5, .int x5)] [.int (S 98 x5.toInt.toNat), .int x4, .int x5, .ref 2, .ref 95] S R _
                refine u_cv (rest := []) rfl (by decide) mt_X2_dearer rfl rfl rfl rfl (Nat.le_of_ble_eq_true rfl) (Nat.le_of_ble_eq_true rfl) (Nat.le_of_ble_eq_true rfl) (fun d' => c_X2_dearer L xs m d' x5 x4 (S 98 x5.toInt.toNat) S R) ?_
                rintro _ _ _ ⟨_, rfl, rfl, rfl, rfl⟩
                show u_P L xs m d m_X2_envious 98 [(6, .int (Int32.ofInt 1)), (0, .ref 95), (1, .ref 2), (2, .int x2), (3, .int x3), (4, .int x4), (5, .int x5)] [.int (f_X2_dearer x5 x4 (S 98 x5.toInt.toNat) S)] S R _
                refine u_if_eq rfl (fun h9 => ?_) (fun h9 => ?_)
                · have hD := hD.1 h9
                  show u_P L xs m d m_X2_envious 104 [(6, .int (Int32.ofInt 1)), (0, .ref 95), (1, .ref 2), (2, .int x2), (3, .int x3), (4, .int x4), (5, .int x5)] [] S R _
                  refine u_st rfl (fun _ => rfl) ?_
                  refine u_st rfl (fun _ => rfl) ?_
                  refine u_lc (b := [(0, .ref 95), (1, .ref 2), (2, .int x2), (3, .int x3), (4, .int x4), (5, .int (x5 + (Int32.ofInt 1))), (6, .int (Int32.ofInt 1))]) (show ([5, 6, 0, 1, 2, 3, 4] : List Nat).Nodup by decide) (show ([0, 1, 2, 3, 4, 5, 6] : List Nat).Nodup by decide) (fun i => match i with | 0 => rfl | 1 => rfl | 2 => rfl | 3 => rfl | 4 => rfl | 5 => rfl | 6 => rfl | _ + 7 => rfl) ?_
                  exact (ih m hm).2.2.2.2 d (Int32.ofInt 1) x2 x3 x4 (x5 + (Int32.ofInt 1)) S hD
                · have hD := hD.2 h9
                  show u_P L xs m d m_X2_envious 101 [(6, .int (Int32.ofInt 1)), (0, .ref 95), (1, .ref 2), (2, .int x2), (3, .int x3), (4, .int x4), (5, .int x5)] [] S R _
                  refine u_st rfl (fun _ => rfl) ?_
                  refine u_st rfl (fun _ => rfl) ?_
                  refine u_st rfl (fun _ => rfl) ?_
                  refine u_lc (b := [(0, .ref 95), (1, .ref 2), (2, .int x2), (3, .int (x3 + (Int32.ofInt 1))), (4, .int x4), (5, .int (x5 + (Int32.ofInt 1))), (6, .int (Int32.ofInt 1))]) (show ([5, 3, 6, 0, 1, 2, 4] : List Nat).Nodup by decide) (show ([0, 1, 2, 3, 4, 5, 6] : List Nat).Nodup by decide) (fun i => match i with | 0 => rfl | 1 => rfl | 2 => rfl | 3 => rfl | 4 => rfl | 5 => rfl | 6 => rfl | _ + 7 => rfl) ?_
                  exact (ih m hm).2.2.2.2 d (Int32.ofInt 1) x2 (x3 + (Int32.ofInt 1)) x4 (x5 + (Int32.ofInt 1)) S hD
    · intro d j6 x2 x3 x4 x5 S hD
      have hD := k15 x2 x3 x4 x5 S hD
      unfold D_X2_envious_15 at hD
      show u_P L xs n d m_X2_envious 15 [(0, .ref 95), (1, .ref 2), (2, .int x2), (3, .int x3), (4, .int x4), (5, .int x5), (6, .int j6)] [] S R _
      refine u_st1 rfl (fun _ => rfl) (fun m hm => ?_)
      refine u_st rfl (fun _ => rfl) ?_
      show u_P L xs m d m_X2_envious 18 [(0, .ref 95), (1, .ref 2), (2, .int x2), (3, .int x3), (4, .int x4), (5, .int x5), (6, .int j6)] [.int (Int32.ofInt 5), .int x5] S R _
      refine u_ic_ge rfl (fun h1 => ?_) (fun h1 => ?_)
      · have hD := hD.1 h1
        show u_P L xs m d m_X2_envious 110 [(0, .ref 95), (1, .ref 2), (2, .int x2), (3, .int x3), (4, .int x4), (5, .int x5), (6, .int j6)] [] S R _
        refine u_st rfl (fun _ => rfl) ?_
        refine u_st rfl (fun _ => rfl) ?_
        refine u_lc (b := [(0, .ref 95), (1, .ref 2), (2, .int x2), (3, .int x3), (4, .int (x4 + (Int32.ofInt 1))), (5, .int x5), (6, .int j6)]) (show ([4, 0, 1, 2, 3, 5, 6] : List Nat).Nodup by decide) (show ([0, 1, 2, 3, 4, 5, 6] : List Nat).Nodup by decide) (fun i => match i with | 0 => rfl | 1 => rfl | 2 => rfl | 3 => rfl | 4 => rfl | 5 => rfl | 6 => rfl | _ + 7 => rfl) ?_
        exact (ih m hm).2.2.1 d x5 j6 x2 x3 (x4 + (Int32.ofInt 1)) S hD
      · have hD := hD.2 h1
        show u_P L xs m d m_X2_envious 21 [(0, .ref 95), (1, .ref 2), (2, .int x2), (3, .int x3), (4, .int x4), (5, .int x5), (6, .int j6)] [] S R _
        refine u_st rfl (fun _ => rfl) ?_
        refine u_st rfl (fun _ => rfl) ?_
        show u_P L xs m d m_X2_envious 24 [(0, .ref 95), (1, .ref 2), (2, .int x2), (3, .int x3), (4, .int x4), (5, .int x5), (6, .int j6)] [.int x4, .int x2] S R _
        refine u_cs (ac := [.int x2, .int x4]) (rest := []) rfl (by decide) mt_X11_isIn (fun _ => rfl) (Nat.le_of_ble_eq_true rfl) (Nat.le_of_ble_eq_true rfl) (fun d' => c_X11_isIn L xs m d' x2 x4 S R) ?_
        rintro _ _ _ ⟨_, rfl, rfl, rfl, rfl⟩
        show u_P L xs m d m_X2_envious 27 [(0, .ref 95), (1, .ref 2), (2, .int x2), (3, .int x3), (4, .int x4), (5, .int x5), (6, .int j6)] [.int (f_X11_isIn x2 x4)] S R _
        refine u_if_eq rfl (fun h2 => ?_) (fun h2 => ?_)
        · have hD := hD.1 h2
          show u_P L xs m d m_X2_envious 58 [(0, .ref 95), (1, .ref 2), (2, .int x2), (3, .int x3), (4, .int x4), (5, .int x5), (6, .int j6)] [] S R _
          refine u_st rfl (fun _ => rfl) ?_
          refine u_st rfl (fun _ => rfl) ?_
          refine u_st rfl (fun _ => rfl) ?_
          show u_P L xs m d m_X2_envious 63 [(6, .int (Int32.ofInt 0)), (0, .ref 95), (1, .ref 2), (2, .int x2), (3, .int x3), (4, .int x4), (5, .int x5)] [.int (Int32.ofInt 0)] S R _
          refine u_st rfl (fun _ => rfl) ?_
          refine u_st rfl (fun _ => rfl) ?_
          refine u_st rfl (fun _ => rfl) ?_
          refine u_lc (b := [(0, .ref 95), (1, .ref 2), (2, .int x2), (3, .int x3), (4, .int x4), (5, .int (x5 + (Int32.ofInt 1))), (6, .int (Int32.ofInt 0))]) (show ([5, 6, 0, 1, 2, 3, 4] : List Nat).Nodup by decide) (show ([0, 1, 2, 3, 4, 5, 6] : List Nat).Nodup by decide) (fun i => match i with | 0 => rfl | 1 => rfl | 2 => rfl | 3 => rfl | 4 => rfl | 5 => rfl | 6 => rfl | _ + 7 => rfl) ?_
          exact (ih m hm).2.2.2.2 d (Int32.ofInt 0) x2 x3 x4 (x5 + (Int32.ofInt 1)) S hD
        · have hD := hD.2 h2
          show u_P L xs m d m_X2_envious 30 [(0, .ref 95), (1, .ref 2), (2, .int x2), (3, .int x3), (4, .int x4), (5, .int x5), (6, .int j6)] [] S R _
          refine u_st rfl (fun _ => rfl) ?_
          show u_P L xs m d m_X2_envious 31 [(0, .ref 95), (1, .ref 2), (2, .int x2), (3, .int x3), (4, .int x4), (5, .int x5), (6, .int j6)] [.ref 95] S R _
          refine u_getE (v := S 94 0) rfl rfl rfl rfl ?_
          refine u_st rfl (fun _ => rfl) ?_
          show u_P L xs m d m_X2_envious 36 [(0, .ref 95), (1, .ref 2), (2, .int x2), (3, .int x3), (4, .int x4), (5, .int x5), (6, .int j6)] [.int x5, .int (S 94 0)] S R _
          refine u_cs (ac := [.int (S 94 0), .int x5]) (rest := []) rfl (by decide) mt_X11_isIn (fun _ => rfl) (Nat.le_of_ble_eq_true rfl) (Nat.le_of_ble_eq_true rfl) (fun d' => c_X11_isIn L xs m d' (S 94 0) x5 S R) ?_
          rintro _ _ _ ⟨_, rfl, rfl, rfl, rfl⟩
          show u_P L xs m d m_X2_envious 39 [(0, .ref 95), (1, .ref 2), (2, .int x2), (3, .int x3), (4, .int x4), (5, .int x5), (6, .int j6)] [.int (f_X11_isIn (S 94 0) x5)] S R _
          refine u_if_eq rfl (fun h3 => ?_) (fun h3 => ?_)
          · have hD := hD.1 h3
            show u_P L xs m d m_X2_envious 58 [(0, .ref 95), (1, .ref 2), (2, .int x2), (3, .int x3), (4, .int x4), (5, .int x5), (6, .int j6)] [] S R _
            refine u_st rfl (fun _ => rfl) ?_
            refine u_st rfl (fun _ => rfl) ?_
            refine u_st rfl (fun _ => rfl) ?_
            show u_P L xs m d m_X2_envious 63 [(6, .int (Int32.ofInt 0)), (0, .ref 95), (1, .ref 2), (2, .int x2), (3, .int x3), (4, .int x4), (5, .int x5)] [.int (Int32.ofInt 0)] S R _
            refine u_st rfl (fun _ => rfl) ?_
            refine u_st rfl (fun _ => rfl) ?_
            refine u_st rfl (fun _ => rfl) ?_
            refine u_lc (b := [(0, .ref 95), (1, .ref 2), (2, .int x2), (3, .int x3), (4, .int x4), (5, .int (x5 + (Int32.ofInt 1))), (6, .int (Int32.ofInt 0))]) (show ([5, 6, 0, 1, 2, 3, 4] : List Nat).Nodup by decide) (show ([0, 1, 2, 3, 4, 5, 6] : List Nat).Nodup by decide) (fun i => match i with | 0 => rfl | 1 => rfl | 2 => rfl | 3 => rfl | 4 => rfl | 5 => rfl | 6 => rfl | _ + 7 => rfl) ?_
            exact (ih m hm).2.2.2.2 d (Int32.ofInt 0) x2 x3 x4 (x5 + (Int32.ofInt 1)) S hD
          · have hD := hD.2 h3
            show u_P L xs m d m_X2_envious 42 [(0, .ref 95), (1, .ref 2), (2, .int x2), (3, .int x3), (4, .int x4), (5, .int x5), (6, .int j6)] [] S R _
            refine u_st rfl (fun _ => rfl) ?_
            show u_P L xs m d m_X2_envious 43 [(0, .ref 95), (1, .ref 2), (2, .int x2), (3, .int x3), (4, .int x4), (5, .int x5), (6, .int j6)] [.ref 95] S R _
            refine u_getr rfl rfl rfl ?_
            refine u_st rfl (fun _ => rfl) ?_
            show u_P L xs m d m_X2_envious 48 [(0, .ref 95), (1, .ref 2), (2, .int x2), (3, .int x3), (4, .int x4), (5, .int x5), (6, .int j6)] [.int x4, .ref 98] S R _
            refine u_ialdE (v := S 97 x4.toInt.toNat) rfl rfl rfl (fun b41 b42 => ?_)
            have hD := hD b41 b42
            show u_P L xs m d m_X2_envious 49 [(0, .ref 95), (1, .ref 2), (2, .int x2), (3, .int x3), (4, .int x4), (5, .int x5), (6, .int j6)] [.int (S 97 x4.toInt.toNat)] S R _
            refine u_st rfl (fun _ => rfl) ?_
            show u_P L xs m d m_X2_envious 51 [(0, .ref 95), (1, .ref 2), (2, .int x2), (3, .int x3), (4, .int x4), (5, .int x5), (6, .int j6)] [.int x5, .int (S 97 x4.toInt.toNat)] S R _
            refine u_ic_eq rfl (fun h5 => ?_) (fun h5 => ?_)
            · have hD := hD.1 h5
              show u_P L xs m d m_X2_envious 58 [(0, .ref 95), (1, .ref 2), (2, .int x2), (3, .int x3), (4, .int x4), (5, .int x5), (6, .int j6)] [] S R _
              refine u_st rfl (fun _ => rfl) ?_
              refine u_st rfl (fun _ => rfl) ?_
              refine u_st rfl (fun _ => rfl) ?_
              show u_P L xs m d m_X2_envious 63 [(6, .int (Int32.ofInt 0)), (0, .ref 95), (1, .ref 2), (2, .int x2), (3, .int x3), (4, .int x4), (5, .int x5)] [.int (Int32.ofInt 0)] S R _
              refine u_st rfl (fun _ => rfl) ?_
              refine u_st rfl (fun _ => rfl) ?_
              refine u_st rfl (fun _ => rfl) ?_
              refine u_lc (b := [(0, .ref 95), (1, .ref 2), (2, .int x2), (3, .int x3), (4, .int x4), (5, .int (x5 + (Int32.ofInt 1))), (6, .int (Int32.ofInt 0))]) (show ([5, 6, 0, 1, 2, 3, 4] : List Nat).Nodup by decide) (show ([0, 1, 2, 3, 4, 5, 6] : List Nat).Nodup by decide) (fun i => match i with | 0 => rfl | 1 => rfl | 2 => rfl | 3 => rfl | 4 => rfl | 5 => rfl | 6 => rfl | _ + 7 => rfl) ?_
              exact (ih m hm).2.2.2.2 d (Int32.ofInt 0) x2 x3 x4 (x5 + (Int32.ofInt 1)) S hD
            · have hD := hD.2 h5
              show u_P L xs m d m_X2_envious 54 [(0, .ref 95), (1, .ref 2), (2, .int x2), (3, .int x3), (4, .int x4), (5, .int x5), (6, .int j6)] [] S R _
              refine u_st rfl (fun _ => rfl) ?_
              refine u_st rfl (fun _ => rfl) ?_
              refine u_st rfl (fun _ => rfl) ?_
              refine u_st rfl (fun _ => rfl) ?_
              show u_P L xs m d m_X2_envious 63 [(6, .int (Int32.ofInt 1)), (0, .ref 95), (1, .ref 2), (2, .int x2), (3, .int x3), (4, .int x4), (5, .int x5)] [.int (Int32.ofInt 1)] S R _
              refine u_st rfl (fun _ => rfl) ?_
              refine u_st rfl (fun _ => rfl) ?_
              refine u_st rfl (fun _ => rfl) ?_
              refine u_st rfl (fun _ => rfl) ?_
              show u_P L xs m d m_X2_envious 70 [(6, .int (Int32.ofInt 1)), (0, .ref 95), (1, .ref 2), (2, .int x2), (3, .int x3), (4, .int x4), (5, .int x5)] [.ref 95, .int x5, .ref 95] S R _
              refine u_getr rfl rfl rfl ?_
              refine u_st rfl (fun _ => rfl) ?_
              show u_P L xs m d m_X2_envious 75 [(6, .int (Int32.ofInt 1)), (0, .ref 95), (1, .ref 2), (2, .int x2), (3, .int x3), (4, .int x4), (5, .int x5)] [.int x4, .ref 98, .int x5, .ref 95] S R _
              refine u_ialdE (v := S 97 x4.toInt.toNat) rfl rfl rfl (fun b61 b62 => ?_)
              have hD := hD b61 b62
              show u_P L xs m d m_X2_envious 76 [(6, .int (Int32.ofInt 1)), (0, .ref 95), (1, .ref 2), (2, .int x2), (3, .int x3), (4, .int x4), (5, .int x5)] [.int (S 97 x4.toInt.toNat), .int x5, .ref 95] S R _
              refine u_cv (rest := []) rfl (by decide) mt_X2_higher rfl rfl rfl rfl (Nat.le_of_ble_eq_true rfl) (Nat.le_of_ble_eq_true rfl) (Nat.le_of_ble_eq_true rfl) (fun d' => c_X2_higher L xs m d' x5 (S 97 x4.toInt.toNat) S R) ?_
              rintro _ _ _ ⟨_, rfl, rfl, rfl, rfl⟩
              show u_P L xs m d m_X2_envious 79 [(6, .int (Int32.ofInt 1)), (0, .ref 95), (1, .ref 2), (2, .int x2), (3, .int x3), (4, .int x4), (5, .int x5)] [.int (f_X2_higher x5 (S 97 x4.toInt.toNat) S)] S R _
              refine u_if_eq rfl (fun h7 => ?_) (fun h7 => ?_)
              · have hD := hD.1 h7
                show u_P L xs m d m_X2_envious 104 [(6, .int (Int32.ofInt 1)), (0, .ref 95), (1, .ref 2), (2, .int x2), (3, .int x3), (4, .int x4), (5, .int x5)] [] S R _
                refine u_st rfl (fun _ => rfl) ?_
                refine u_st rfl (fun _ => rfl) ?_
                refine u_lc (b := [(0, .ref 95), (1, .ref 2), (2, .int x2), (3, .int x3), (4, .int x4), (5, .int (x5 + (Int32.ofInt 1))), (6, .int (Int32.ofInt 1))]) (show ([5, 6, 0, 1, 2, 3, 4] : List Nat).Nodup by decide) (show ([0, 1, 2, 3, 4, 5, 6] : List Nat).Nodup by decide) (fun i => match i with | 0 => rfl | 1 => rfl | 2 => rfl | 3 => rfl | 4 => rfl | 5 => rfl | 6 => rfl | _ + 7 => rfl) ?_
                exact (ih m hm).2.2.2.2 d (Int32.ofInt 1) x2 x3 x4 (x5 + (Int32.ofInt 1)) S hD
              · have hD := hD.2 h7
                show u_P L xs m d m_X2_envious 82 [(6, .int (Int32.ofInt 1)), (0, .ref 95), (1, .ref 2), (2, .int x2), (3, .int x3), (4, .int x4), (5, .int x5)] [] S R _
                refine u_st rfl (fun _ => rfl) ?_
                refine u_st rfl (fun _ => rfl) ?_
                refine u_st rfl (fun _ => rfl) ?_
                refine u_st rfl (fun _ => rfl) ?_
                refine u_st rfl (fun _ => rfl) ?_
                show u_P L xs m d m_X2_envious 89 [(6, .int (Int32.ofInt 1)), (0, .ref 95), (1, .ref 2), (2, .int x2), (3, .int x3), (4, .int x4), (5, .int x5)] [.ref 95, .int x4, .int x5, .ref 2, .ref 95] S R _
                refine u_getr rfl rfl rfl ?_
                refine u_st rfl (fun _ => rfl) ?_
                show u_P L xs m d m_X2_envious 94 [(6, .int (Int32.ofInt 1)), (0, .ref 95), (1, .ref 2), (2, .int x2), (3, .int x3), (4, .int x4), (5, .int x5)] [.int x5, .ref 99, .int x4, .int x5, .ref 2, .ref 95] S R _
                refine u_ialdE (v := S 98 x5.toInt.toNat) rfl rfl rfl (fun b81 b82 => ?_)
                have hD := hD b81 b82
                show u_P L xs m d m_X2_envious 95 [(6, .int (Int32.ofInt 1)), (0, .ref 95), (1, .ref 2), (2, .int x2), (3, .int x3), (4, .int x4), (5, .int x5)] [.int (S 98 x5.toInt.toNat), .int x4, .int x5, .ref 2, .ref 95] S R _
                refine u_cv (rest := []) rfl (by decide) mt_X2_dearer rfl rfl rfl rfl (Nat.le_of_ble_eq_true rfl) (Nat.le_of_ble_eq_true rfl) (Nat.le_of_ble_eq_true rfl) (fun d' => c_X2_dearer L xs m d' x5 x4 (S 98 x5.toInt.toNat) S R) ?_
                rintro _ _ _ ⟨_, rfl, rfl, rfl, rfl⟩
                show u_P L xs m d m_X2_envious 98 [(6, .int (Int32.ofInt 1)), (0, .ref 95), (1, .ref 2), (2, .int x2), (3, .int x3), (4, .int x4), (5, .int x5)] [.int (f_X2_dearer x5 x4 (S 98 x5.toInt.toNat) S)] S R _
                refine u_if_eq rfl (fun h9 => ?_) (fun h9 => ?_)
                · have hD := hD.1 h9
                  show u_P L xs m d m_X2_envious 104 [(6, .int (Int32.ofInt 1)), (0, .ref 95), (1, .ref 2), (2, .int x2), (3, .int x3), (4, .int x4), (5, .int x5)] [] S R _
                  refine u_st rfl (fun _ => rfl) ?_
                  refine u_st rfl (fun _ => rfl) ?_
                  refine u_lc (b := [(0, .ref 95), (1, .ref 2), (2, .int x2), (3, .int x3), (4, .int x4), (5, .int (x5 + (Int32.ofInt 1))), (6, .int (Int32.ofInt 1))]) (show ([5, 6, 0, 1, 2, 3, 4] : List Nat).Nodup by decide) (show ([0, 1, 2, 3, 4, 5, 6] : List Nat).Nodup by decide) (fun i => match i with | 0 => rfl | 1 => rfl | 2 => rfl | 3 => rfl | 4 => rfl | 5 => rfl | 6 => rfl | _ + 7 => rfl) ?_
                  exact (ih m hm).2.2.2.2 d (Int32.ofInt 1) x2 x3 x4 (x5 + (Int32.ofInt 1)) S hD
                · have hD := hD.2 h9
                  show u_P L xs m d m_X2_envious 101 [(6, .int (Int32.ofInt 1)), (0, .ref 95), (1, .ref 2), (2, .int x2), (3, .int x3), (4, .int x4), (5, .int x5)] [] S R _
                  refine u_st rfl (fun _ => rfl) ?_
                  refine u_st rfl (fun _ => rfl) ?_
                  refine u_st rfl (fun _ => rfl) ?_
                  refine u_lc (b := [(0, .ref 95), (1, .ref 2), (2, .int x2), (3, .int (x3 + (Int32.ofInt 1))), (4, .int x4), (5, .int (x5 + (Int32.ofInt 1))), (6, .int (Int32.ofInt 1))]) (show ([5, 3, 6, 0, 1, 2, 4] : List Nat).Nodup by decide) (show ([0, 1, 2, 3, 4, 5, 6] : List Nat).Nodup by decide) (fun i => match i with | 0 => rfl | 1 => rfl | 2 => rfl | 3 => rfl | 4 => rfl | 5 => rfl | 6 => rfl | _ + 7 => rfl) ?_
                  exact (ih m hm).2.2.2.2 d (Int32.ofInt 1) x2 (x3 + (Int32.ofInt 1)) x4 (x5 + (Int32.ofInt 1)) S hD
set_option maxRecDepth 4000 in
theorem w_X2_envious (L : Nat) (xs : Nat → Int32) {R : v_Rf} (a : Int32) (H5 : Int32 → Int32 → Int32 → v_Sf → Prop) (H15 : Int32 → Int32 → Int32 → Int32 → v_Sf → Prop) (K : Int32 → v_Sf → Prop) (k5 : ∀ (x2 : Int32) (x3 : Int32) (x4 : Int32) (S : v_Sf), H5 x2 x3 x4 S → D_X2_envious_5 H5 H15 K x2 x3 x4 S) (k15 : ∀ (x2 : Int32) (x3 : Int32) (x4 : Int32) (x5 : Int32) (S : v_Sf), H15 x2 x3 x4 x5 S → D_X2_envious_15 H5 H15 K x2 x3 x4 x5 S) (n d : Nat) (S : v_Sf) (hD : D_X2_envious a H5 H15 K S) : u_P L xs n d m_X2_envious 0 (lv_args 0 [.ref 95, .ref 2, .int a]) [] S R (z_Q R K) := by
  unfold D_X2_envious at hD
  show u_P L xs n d m_X2_envious 0 [(0, .ref 95), (1, .ref 2), (2, .int a)] [] S R _
  refine u_st rfl (fun _ => rfl) ?_
  refine u_st rfl (fun _ => rfl) ?_
  refine u_st rfl (fun _ => rfl) ?_
  refine u_st rfl (fun _ => rfl) ?_
  refine u_lc (b := [(0, .ref 95), (1, .ref 2), (2, .int a), (3, .int (Int32.ofInt 0)), (4, .int (Int32.ofInt 0))]) (show ([4, 3, 0, 1, 2] : List Nat).Nodup by decide) (show ([0, 1, 2, 3, 4] : List Nat).Nodup by decide) (fun i => match i with | 0 => rfl | 1 => rfl | 2 => rfl | 3 => rfl | 4 => rfl | _ + 5 => rfl) ?_
  exact (hd_X2_envious L xs a H5 H15 K k5 k15 n).1 d a (Int32.ofInt 0) (Int32.ofInt 0) S hD
noncomputable def r_X2_envious_15 (x2 : Int32) (S : v_Sf) (κ5 : Int32 → Int32) (k5 : Nat) : Nat → Nat → Int32 → Int32
  | 0, k15, x3 => κ5 x3
  | r + 1, k15, x3 => (if (f_X11_isIn x2 (z_i k5)) = 0 then r_X2_envious_15 x2 S κ5 k5 r (k15 + 1) x3 else (if (f_X11_isIn (S 94 0) (z_i k15)) = 0 then r_X2_envious_15 x2 S κ5 k5 r (k15 + 1) x3 else (if (S 97 (z_i k5).toInt.toNat) = (z_i k15) then r_X2_envious_15 x2 S κ5 k5 r (k15 + 1) x3 else (if (f_X2_higher (z_i k15) (S 97 (z_i k5).toInt.toNat) S) = 0 then r_X2_envious_15 x2 S κ5 k5 r (k15 + 1) x3 else (if (f_X2_dearer (z_i k15) (z_i k5) (S 98 (z_i k15).toInt.toNat) S) = 0 then r_X2_envious_15 x2 S κ5 k5 r (k15 + 1) x3 else r_X2_envious_15 x2 S κ5 k5 r (k15 + 1) (x3 + (Int32.ofInt 1)))))))
noncomputable def r_X2_envious_5 (x2 : Int32) (S : v_Sf) : Nat → Nat → Int32 → Int32
  | 0, k5, x3 => x3
  | r + 1, k5, x3 => r_X2_envious_15 x2 S (fun v0 => r_X2_envious_5 x2 S r (k5 + 1) v0) k5 (5 - 0) 0 x3
noncomputable def F_X2_envious (a : Int32) (S : v_Sf) : Int32 := r_X2_envious_5 a S (12 - 0) 0 (Int32.ofInt 0)
noncomputable def f_X2_envious (a : Int32) (S : v_Sf) : Int32 := F_X2_envious a S
theorem c_X2_envious (L : Nat) (xs : Nat → Int32) (n d : Nat) (a : Int32) (S : v_Sf) (R : v_Rf) : u_P L xs n d m_X2_envious 0 (lv_args 0 [.ref 95, .ref 2, .int a]) [] S R (z_Q R (fun v S1 => f_X2_envious a S = v ∧ S = S1)) := by
  refine w_X2_envious L xs a (fun y2 y3 y4 T => ∃ (k5 : Nat), k5 ≤ 12 ∧ z_i k5 = y4 ∧ a = y2 ∧ S = T ∧ r_X2_envious_5 a S (12 - k5) k5 y3 = F_X2_envious a S) (fun y2 y3 y4 y5 T => ∃ (k5 k15 : Nat), k15 ≤ 5 ∧ z_i k15 = y5 ∧ k5 < 12 ∧ z_i k5 = y4 ∧ a = y2 ∧ S = T ∧ r_X2_envious_15 a S (fun v0 => r_X2_envious_5 a S (12 - (k5 + 1)) (k5 + 1) v0) k5 (5 - k15) k15 y3 = F_X2_envious a S) (fun v S1 => f_X2_envious a S = v ∧ S = S1) ?_ ?_ n d S ?_
  · rintro _ x3 _ _ ⟨k5, hkk, rfl, rfl, rfl, e⟩
    unfold D_X2_envious_5
    rcases Nat.lt_or_ge k5 (12) with hk | hk
    · rw [show 12 - k5 = (12 - (k5 + 1)) + 1 by omega, r_X2_envious_5] at e
      refine ⟨fun q1 => ?_, fun q1 => ?_⟩
      · exact absurd hk (Nat.not_lt.mpr (z_leB2 (B := 12) q1 (by decide) (by omega)))
      · exact ⟨k5, 0, by omega, rfl, by omega, rfl, rfl, rfl, e⟩
    · rw [show 12 - k5 = 0 by omega, r_X2_envious_5] at e
      refine ⟨fun q2 => ?_, fun q2 => ?_⟩
      · exact ⟨e.symm, rfl⟩
      · exact absurd hk (Nat.not_le.mpr (z_ltB2 (B := 12) q2 (by decide) (by omega)))
  · rintro _ x3 _ _ _ ⟨k5, k15, hkk, rfl, hk5, rfl, rfl, rfl, e⟩
    unfold D_X2_envious_15
    rcases Nat.lt_or_ge k15 (5) with hk | hk
    · rw [show 5 - k15 = (5 - (k15 + 1)) + 1 by omega, r_X2_envious_15] at e
      refine ⟨fun q3 => ?_, fun q3 => ?_⟩
      · exact absurd hk (Nat.not_lt.mpr (z_leB2 (B := 5) q3 (by decide) (by omega)))
      · refine ⟨fun q4 => ?_, fun q4 => ?_⟩
        · rw [if_pos q4] at e
          exact ⟨k5, (k15 + 1), by omega, (z_i1 k15).symm, by omega, rfl, rfl, rfl, e⟩
        · refine ⟨fun q5 => ?_, fun q5 => ?_⟩
          · rw [if_neg q4, if_pos q5] at e
            exact ⟨k5, (k15 + 1), by omega, (z_i1 k15).symm, by omega, rfl, rfl, rfl, e⟩
          · intro _ _
            refine ⟨fun q6 => ?_, fun q6 => ?_⟩
            · rw [if_neg q4, if_neg q5, if_pos q6] at e
              exact ⟨k5, (k15 + 1), by omega, (z_i1 k15).symm, by omega, rfl, rfl, rfl, e⟩
            · intro _ _
              refine ⟨fun q7 => ?_, fun q7 => ?_⟩
              · rw [if_neg q4, if_neg q5, if_neg q6, if_pos q7] at e
                exact ⟨k5, (k15 + 1), by omega, (z_i1 k15).symm, by omega, rfl, rfl, rfl, e⟩
              · intro _ _
                refine ⟨fun q8 => ?_, fun q8 => ?_⟩
                · rw [if_neg q4, if_neg q5, if_neg q6, if_neg q7, if_pos q8] at e
                  exact ⟨k5, (k15 + 1), by omega, (z_i1 k15).symm, by omega, rfl, rfl, rfl, e⟩
                · rw [if_neg q4, if_neg q5, if_neg q6, if_neg q7, if_neg q8] at e
                  exact ⟨k5, (k15 + 1), by omega, (z_i1 k15).symm, by omega, rfl, rfl, rfl, e⟩
    · rw [show 5 - k15 = 0 by omega, r_X2_envious_15] at e
      refine ⟨fun q9 => ?_, fun q9 => ?_⟩
      · exact ⟨(k5 + 1), by omega, (z_i1 k5).symm, rfl, rfl, e⟩
      · exact absurd hk (Nat.not_le.mpr (z_ltB2 (B := 5) q9 (by decide) (by omega)))
  · unfold D_X2_envious
    have e : r_X2_envious_5 a S (12 - 0) 0 (Int32.ofInt 0) = F_X2_envious a S := by rw [F_X2_envious]
    exact ⟨0, by omega, rfl, rfl, rfl, e⟩
noncomputable abbrev m_X11_placed : g_M := (g_cn 11, yX11_placed, cX11_placed, 3, (some .int), g_look2 ttX11_placed)
set_option maxRecDepth 20000 in
theorem mt_X11_placed : g_mt 139 = some m_X11_placed := rfl
noncomputable abbrev m_X11_fair : g_M := (g_cn 11, yX11_fair, cX11_fair, 3, (some .int), g_look2 ttX11_fair)
set_option maxRecDepth 20000 in
theorem mt_X11_fair : g_mt 140 = some m_X11_fair := rfl
noncomputable def f_X11_fair (a : Int32) (S : v_Sf) : Int32 := (if (f_X11_chosen a (Int32.ofInt 1) (Int32.ofInt 6) S) = 0 then Int32.ofInt (-1) else (if (f_J6_bitCount_0f7a4 a) ≤ (S 45 1) then (if (f_X2_readRow a S) = 0 then Int32.ofInt (-2) else f_X2_envious a (g_X8_empty (g_X2_readRow a S))) else Int32.ofInt (-1)))
noncomputable def g_X11_fair (a : Int32) (S : v_Sf) : v_Sf := (if (f_X11_chosen a (Int32.ofInt 1) (Int32.ofInt 6) S) = 0 then S else (if (f_J6_bitCount_0f7a4 a) ≤ (S 45 1) then g_X8_empty (g_X2_readRow a S) else S))
set_option maxRecDepth 4000 in
theorem c_X11_fair (L : Nat) (xs : Nat → Int32) (n d : Nat) (a : Int32) (S : v_Sf) (R : v_Rf) : u_P L xs n d m_X11_fair 0 (lv_args 0 [.ref 1, .int a]) [] S R (z_Q R (fun v S1 => f_X11_fair a S = v ∧ g_X11_fair a S = S1)) := by
  show u_P L xs n d m_X11_fair 0 [(0, .ref 1), (1, .int a)] [] S R _
  refine u_st rfl (fun _ => rfl) ?_
  refine u_st rfl (fun _ => rfl) ?_
  refine u_st rfl (fun _ => rfl) ?_
  refine u_st rfl (fun _ => rfl) ?_
  show u_P L xs n d m_X11_fair 5 [(0, .ref 1), (1, .int a)] [.int (Int32.ofInt 6), .int (Int32.ofInt 1), .int a, .ref 1] S R _
  refine u_cv (rest := []) rfl (by decide) mt_X11_chosen v_tyC rfl rfl rfl (Nat.le_of_ble_eq_true rfl) (Nat.le_of_ble_eq_true rfl) (Nat.le_of_ble_eq_true rfl) (fun d' => c_X11_chosen L xs n d' a (Int32.ofInt 1) (Int32.ofInt 6) S R) ?_
  rintro _ _ _ ⟨_, rfl, rfl, rfl, rfl⟩
  show u_P L xs n d m_X11_fair 8 [(0, .ref 1), (1, .int a)] [.int (f_X11_chosen a (Int32.ofInt 1) (Int32.ofInt 6) S)] S R _
  refine u_if_eq rfl (fun h1 => ?_) (fun h1 => ?_)
  · show u_P L xs n d m_X11_fair 25 [(0, .ref 1), (1, .int a)] [] S R _
    refine u_st rfl (fun _ => rfl) ?_
    show u_P L xs n d m_X11_fair 26 [(0, .ref 1), (1, .int a)] [.int (Int32.ofInt (-1))] S R _
    exact u_ret rfl rfl ⟨_, rfl, rfl, by rw [f_X11_fair, if_pos h1], by rw [g_X11_fair, if_pos h1]⟩
  · show u_P L xs n d m_X11_fair 11 [(0, .ref 1), (1, .int a)] [] S R _
    refine u_st rfl (fun _ => rfl) ?_
    show u_P L xs n d m_X11_fair 12 [(0, .ref 1), (1, .int a)] [.int a] S R _
    refine u_cs (ac := [.int a]) (rest := []) rfl (by decide) mt_J6_bitCount_0f7a4 (fun _ => rfl) (Nat.le_of_ble_eq_true rfl) (Nat.le_of_ble_eq_true rfl) (fun d' => c_J6_bitCount_0f7a4 L xs n d' a S R) ?_
    rintro _ _ _ ⟨_, rfl, rfl, rfl, rfl⟩
    refine u_st rfl (fun _ => rfl) ?_
    show u_P L xs n d m_X11_fair 16 [(0, .ref 1), (1, .int a)] [.ref 1, .int (f_J6_bitCount_0f7a4 a)] S R _
    refine u_getr rfl v_tyC rfl ?_
    show u_P L xs n d m_X11_fair 19 [(0, .ref 1), (1, .int a)] [.ref 46, .int (f_J6_bitCount_0f7a4 a)] S R _
    refine u_getE (v := S 45 1) rfl rfl rfl rfl ?_
    show u_P L xs n d m_X11_fair 22 [(0, .ref 1), (1, .int a)] [.int (S 45 1), .int (f_J6_bitCount_0f7a4 a)] S R _
    refine u_ic_le rfl (fun h2 => ?_) (fun h2 => ?_)
    · show u_P L xs n d m_X11_fair 27 [(0, .ref 1), (1, .int a)] [] S R _
      refine u_st rfl (fun _ => rfl) ?_
      show u_P L xs n d m_X11_fair 28 [(0, .ref 1), (1, .int a)] [.ref 1] S R _
      refine u_getr rfl v_tyC rfl ?_
      refine u_st rfl (fun _ => rfl) ?_
      show u_P L xs n d m_X11_fair 32 [(0, .ref 1), (1, .int a)] [.ref 1, .ref 95] S R _
      refine u_getr rfl v_tyC rfl ?_
      refine u_st rfl (fun _ => rfl) ?_
      show u_P L xs n d m_X11_fair 36 [(0, .ref 1), (1, .int a)] [.int a, .ref 46, .ref 95] S R _
      refine u_cv (rest := []) rfl (by decide) mt_X2_readRow rfl rfl rfl rfl (Nat.le_of_ble_eq_true rfl) (Nat.le_of_ble_eq_true rfl) (Nat.le_of_ble_eq_true rfl) (fun d' => c_X2_readRow L xs n d' a S R) ?_
      rintro _ _ _ ⟨_, rfl, rfl, rfl, rfl⟩
      refine u_st rfl (fun _ => rfl) ?_
      refine u_st rfl (fun _ => rfl) ?_
      show u_P L xs n d m_X11_fair 41 [(2, .int (f_X2_readRow a S)), (0, .ref 1), (1, .int a)] [.ref 1] (g_X2_readRow a S) R _
      refine u_getr rfl v_tyC rfl ?_
      show u_P L xs n d m_X11_fair 44 [(2, .int (f_X2_readRow a S)), (0, .ref 1), (1, .int a)] [.ref 46] (g_X2_readRow a S) R _
      refine u_cv (rest := []) rfl (by decide) mt_X8_empty rfl rfl rfl rfl (Nat.le_of_ble_eq_true rfl) (Nat.le_of_ble_eq_true rfl) (Nat.le_of_ble_eq_true rfl) (fun d' => c_X8_empty L xs n d' (g_X2_readRow a S) R) ?_
      rintro _ _ _ ⟨rfl, rfl, rfl⟩
      refine u_st rfl (fun _ => rfl) ?_
      show u_P L xs n d m_X11_fair 48 [(2, .int (f_X2_readRow a S)), (0, .ref 1), (1, .int a)] [.int (f_X2_readRow a S)] (g_X8_empty (g_X2_readRow a S)) R _
      refine u_if_eq rfl (fun h3 => ?_) (fun h3 => ?_)
      · show u_P L xs n d m_X11_fair 66 [(2, .int (f_X2_readRow a S)), (0, .ref 1), (1, .int a)] [] (g_X8_empty (g_X2_readRow a S)) R _
        refine u_st rfl (fun _ => rfl) ?_
        show u_P L xs n d m_X11_fair 68 [(2, .int (f_X2_readRow a S)), (0, .ref 1), (1, .int a)] [.int (Int32.ofInt (-2))] (g_X8_empty (g_X2_readRow a S)) R _
        exact u_ret rfl rfl ⟨_, rfl, rfl, by rw [f_X11_fair, if_neg h1, if_pos h2, if_pos h3], by rw [g_X11_fair, if_neg h1, if_pos h2]⟩
      · show u_P L xs n d m_X11_fair 51 [(2, .int (f_X2_readRow a S)), (0, .ref 1), (1, .int a)] [] (g_X8_empty (g_X2_readRow a S)) R _
        refine u_st rfl (fun _ => rfl) ?_
        show u_P L xs n d m_X11_fair 52 [(2, .int (f_X2_readRow a S)), (0, .ref 1), (1, .int a)] [.ref 1] (g_X8_empty (g_X2_readRow a S)) R _
        refine u_getr rfl v_tyC rfl ?_
        refine u_st rfl (fun _ => rfl) ?_
        show u_P L xs n d m_X11_fair 56 [(2, .int (f_X2_readRow a S)), (0, .ref 1), (1, .int a)] [.ref 1, .ref 95] (g_X8_empty (g_X2_readRow a S)) R _
        refine u_getr rfl v_tyC rfl ?_
        refine u_st rfl (fun _ => rfl) ?_
        show u_P L xs n d m_X11_fair 60 [(2, .int (f_X2_readRow a S)), (0, .ref 1), (1, .int a)] [.int a, .ref 2, .ref 95] (g_X8_empty (g_X2_readRow a S)) R _
        refine u_cv (rest := []) rfl (by decide) mt_X2_envious rfl rfl rfl rfl (Nat.le_of_ble_eq_true rfl) (Nat.le_of_ble_eq_true rfl) (Nat.le_of_ble_eq_true rfl) (fun d' => c_X2_envious L xs n d' a (g_X8_empty (g_X2_readRow a S)) R) ?_
        rintro _ _ _ ⟨_, rfl, rfl, rfl, rfl⟩
        refine u_st rfl (fun _ => rfl) ?_
        show u_P L xs n d m_X11_fair 68 [(2, .int (f_X2_readRow a S)), (0, .ref 1), (1, .int a)] [.int (f_X2_envious a (g_X8_empty (g_X2_readRow a S)))] (g_X8_empty (g_X2_readRow a S)) R _
        exact u_ret rfl rfl ⟨_, rfl, rfl, by rw [f_X11_fair, if_neg h1, if_pos h2, if_neg h3], by rw [g_X11_fair, if_neg h1, if_pos h2]⟩
    · show u_P L xs n d m_X11_fair 25 [(0, .ref 1), (1, .int a)] [] S R _
      refine u_st rfl (fun _ => rfl) ?_
      show u_P L xs n d m_X11_fair 26 [(0, .ref 1), (1, .int a)] [.int (Int32.ofInt (-1))] S R _
      exact u_ret rfl rfl ⟨_, rfl, rfl, by rw [f_X11_fair, if_neg h1, if_neg h2], by rw [g_X11_fair, if_neg h1, if_neg h2]⟩
end PrtS42wa
section PrtS42wb
noncomputable abbrev m_X11_sightingsStand : g_M := (g_cn 11, yX11_sightingsStand, cX11_sightingsStand, 7, (some .boolean), g_look2 ttX11_sightingsStand)
set_option maxRecDepth 20000 in
theorem mt_X11_sightingsStand : g_mt 157 = some m_X11_sightingsStand := rfl
noncomputable def D_X11_sightingsStand_4  (H4 : Int32 → Int32 → Int32 → v_Sf → Prop) (K : Int32 → v_Sf → Prop) (x1 : Int32) (x2 : Int32) (x3 : Int32) (S : v_Sf) : Prop := ((x1 ≤ x3 → K (Int32.ofInt 1) S) ∧ (¬ (x1 ≤ x3) → (((f_X8_at ((Int32.ofInt 3) * x3) S) ≤ x2 → K (Int32.ofInt 0) S) ∧ (¬ ((f_X8_at ((Int32.ofInt 3) * x3) S) ≤ x2) → (((f_X8_at (((Int32.ofInt 3) * x3) + (Int32.ofInt 2)) S) < (f_X8_at (((Int32.ofInt 3) * x3) + (Int32.ofInt 1)) S) → K (Int32.ofInt 0) S) ∧ (¬ ((f_X8_at (((Int32.ofInt 3) * x3) + (Int32.ofInt 2)) S) < (f_X8_at (((Int32.ofInt 3) * x3) + (Int32.ofInt 1)) S)) → (((f_X8_at (((Int32.ofInt 3) * x3) + (Int32.ofInt 2)) S) ≤ (Int32.ofInt 250) → H4 x1 (f_X8_at ((Int32.ofInt 3) * x3) S) (x3 + (Int32.ofInt 1)) S) ∧ (¬ ((f_X8_at (((Int32.ofInt 3) * x3) + (Int32.ofInt 2)) S) ≤ (Int32.ofInt 250)) → K (Int32.ofInt 0) S))))))))
noncomputable def D_X11_sightingsStand (a : Int32) (H4 : Int32 → Int32 → Int32 → v_Sf → Prop) (K : Int32 → v_Sf → Prop) (S : v_Sf) : Prop := H4 a (Int32.ofInt (-1)) (Int32.ofInt 0) S
set_option maxRecDepth 4000 in
theorem hd_X11_sightingsStand (L : Nat) (xs : Nat → Int32) {R : v_Rf} (a : Int32) (H4 : Int32 → Int32 → Int32 → v_Sf → Prop) (K : Int32 → v_Sf → Prop) (k4 : ∀ (x1 : Int32) (x2 : Int32) (x3 : Int32) (S : v_Sf), H4 x1 x2 x3 S → D_X11_sightingsStand_4 H4 K x1 x2 x3 S) : ∀ n, (∀ (d : Nat) (x1 : Int32) (x2 : Int32) (x3 : Int32) (S : v_Sf), H4 x1 x2 x3 S → u_P L xs n d m_X11_sightingsStand 4 [(0, .ref 1), (1, .int x1), (2, .int x2), (3, .int x3)] [] S R (z_Q R K)) ∧ (∀ (d : Nat) (j4 : Int32) (j5 : Int32) (j6 : Int32) (x1 : Int32) (x2 : Int32) (x3 : Int32) (S : v_Sf), H4 x1 x2 x3 S → u_P L xs n d m_X11_sightingsStand 4 [(0, .ref 1), (1, .int x1), (2, .int x2), (3, .int x3), (4, .int j4), (5, .int j5), (6, .int j6)] [] S R (z_Q R K)) := by
  intro n
  induction n using Nat.strongRecOn with
  | ind n ih =>
    refine ⟨?_, ?_⟩
    · intro d x1 x2 x3 S hD
      have hD := k4 x1 x2 x3 S hD
      unfold D_X11_sightingsStand_4 at hD
      show u_P L xs n d m_X11_sightingsStand 4 [(0, .ref 1), (1, .int x1), (2, .int x2), (3, .int x3)] [] S R _
      refine u_st1 rfl (fun _ => rfl) (fun m hm => ?_)
      refine u_st rfl (fun _ => rfl) ?_
      show u_P L xs m d m_X11_sightingsStand 6 [(0, .ref 1), (1, .int x1), (2, .int x2), (3, .int x3)] [.int x1, .int x3] S R _
      refine u_ic_ge rfl (fun h1 => ?_) (fun h1 => ?_)
      · have hD := hD.1 h1
        show u_P L xs m d m_X11_sightingsStand 81 [(0, .ref 1), (1, .int x1), (2, .int x2), (3, .int x3)] [] S R _
        refine u_st rfl (fun _ => rfl) ?_
        show u_P L xs m d m_X11_sightingsStand 82 [(0, .ref 1), (1, .int x1), (2, .int x2), (3, .int x3)] [.int (Int32.ofInt 1)] S R _
        exact u_retb rfl rfl ⟨_, rfl, rfl, hD⟩
      · have hD := hD.2 h1
        show u_P L xs m d m_X11_sightingsStand 9 [(0, .ref 1), (1, .int x1), (2, .int x2), (3, .int x3)] [] S R _
        refine u_st rfl (fun _ => rfl) ?_
        show u_P L xs m d m_X11_sightingsStand 10 [(0, .ref 1), (1, .int x1), (2, .int x2), (3, .int x3)] [.ref 1] S R _
        refine u_getr rfl v_tyC rfl ?_
        refine u_st rfl (fun _ => rfl) ?_
        refine u_st rfl (fun _ => rfl) ?_
        refine u_st rfl (fun _ => rfl) ?_
        show u_P L xs m d m_X11_sightingsStand 16 [(0, .ref 1), (1, .int x1), (2, .int x2), (3, .int x3)] [.int ((Int32.ofInt 3) * x3), .ref 46] S R _
        refine u_cv (rest := []) rfl (by decide) mt_X8_at rfl rfl rfl rfl (Nat.le_of_ble_eq_true rfl) (Nat.le_of_ble_eq_true rfl) (Nat.le_of_ble_eq_true rfl) (fun d' => c_X8_at L xs m d' ((Int32.ofInt 3) * x3) S R) ?_
        rintro _ _ _ ⟨_, rfl, rfl, rfl, rfl⟩
        refine u_st rfl (fun _ => rfl) ?_
        refine u_st rfl (fun _ => rfl) ?_
        show u_P L xs m d m_X11_sightingsStand 22 [(4, .int (f_X8_at ((Int32.ofInt 3) * x3) S)), (0, .ref 1), (1, .int x1), (2, .int x2), (3, .int x3)] [.ref 1] S R _
        refine u_getr rfl v_tyC rfl ?_
        refine u_st rfl (fun _ => rfl) ?_
        refine u_st rfl (fun _ => rfl) ?_
        refine u_st rfl (fun _ => rfl) ?_
        refine u_st rfl (fun _ => rfl) ?_
        refine u_st rfl (fun _ => rfl) ?_
        show u_P L xs m d m_X11_sightingsStand 30 [(4, .int (f_X8_at ((Int32.ofInt 3) * x3) S)), (0, .ref 1), (1, .int x1), (2, .int x2), (3, .int x3)] [.int (((Int32.ofInt 3) * x3) + (Int32.ofInt 1)), .ref 46] S R _
        refine u_cv (rest := []) rfl (by decide) mt_X8_at rfl rfl rfl rfl (Nat.le_of_ble_eq_true rfl) (Nat.le_of_ble_eq_true rfl) (Nat.le_of_ble_eq_true rfl) (fun d' => c_X8_at L xs m d' (((Int32.ofInt 3) * x3) + (Int32.ofInt 1)) S R) ?_
        rintro _ _ _ ⟨_, rfl, rfl, rfl, rfl⟩
        refine u_st rfl (fun _ => rfl) ?_
        refine u_st rfl (fun _ => rfl) ?_
        show u_P L xs m d m_X11_sightingsStand 36 [(5, .int (f_X8_at (((Int32.ofInt 3) * x3) + (Int32.ofInt 1)) S)), (4, .int (f_X8_at ((Int32.ofInt 3) * x3) S)), (0, .ref 1), (1, .int x1), (2, .int x2), (3, .int x3)] [.ref 1] S R _
        refine u_getr rfl v_tyC rfl ?_
        refine u_st rfl (fun _ => rfl) ?_
        refine u_st rfl (fun _ => rfl) ?_
        refine u_st rfl (fun _ => rfl) ?_
        refine u_st rfl (fun _ => rfl) ?_
        refine u_st rfl (fun _ => rfl) ?_
        show u_P L xs m d m_X11_sightingsStand 44 [(5, .int (f_X8_at (((Int32.ofInt 3) * x3) + (Int32.ofInt 1)) S)), (4, .int (f_X8_at ((Int32.ofInt 3) * x3) S)), (0, .ref 1), (1, .int x1), (2, .int x2), (3, .int x3)] [.int (((Int32.ofInt 3) * x3) + (Int32.ofInt 2)), .ref 46] S R _
        refine u_cv (rest := []) rfl (by decide) mt_X8_at rfl rfl rfl rfl (Nat.le_of_ble_eq_true rfl) (Nat.le_of_ble_eq_true rfl) (Nat.le_of_ble_eq_true rfl) (fun d' => c_X8_at L xs m d' (((Int32.ofInt 3) * x3) + (Int32.ofInt 2)) S R) ?_
        rintro _ _ _ ⟨_, rfl, rfl, rfl, rfl⟩
        refine u_st rfl (fun _ => rfl) ?_
        refine u_st rfl (fun _ => rfl) ?_
        refine u_st rfl (fun _ => rfl) ?_
        show u_P L xs m d m_X11_sightingsStand 52 [(6, .int (f_X8_at (((Int32.ofInt 3) * x3) + (Int32.ofInt 2)) S)), (5, .int (f_X8_at (((Int32.ofInt 3) * x3) + (Int32.ofInt 1)) S)), (4, .int (f_X8_at ((Int32.ofInt 3) * x3) S)), (0, .ref 1), (1, .int x1), (2, .int x2), (3, .int x3)] [.int x2, .int (f_X8_at ((Int32.ofInt 3) * x3) S)] S R _
        refine u_ic_le rfl (fun h2 => ?_) (fun h2 => ?_)
        · have hD := hD.1 h2
          show u_P L xs m d m_X11_sightingsStand 70 [(6, .int (f_X8_at (((Int32.ofInt 3) * x3) + (Int32.ofInt 2)) S)), (5, .int (f_X8_at (((Int32.ofInt 3) * x3) + (Int32.ofInt 1)) S)), (4, .int (f_X8_at ((Int32.ofInt 3) * x3) S)), (0, .ref 1), (1, .int x1), (2, .int x2), (3, .int x3)] [] S R _
          refine u_st rfl (fun _ => rfl) ?_
          show u_P L xs m d m_X11_sightingsStand 71 [(6, .int (f_X8_at (((Int32.ofInt 3) * x3) + (Int32.ofInt 2)) S)), (5, .int (f_X8_at (((Int32.ofInt 3) * x3) + (Int32.ofInt 1)) S)), (4, .int (f_X8_at ((Int32.ofInt 3) * x3) S)), (0, .ref 1), (1, .int x1), (2, .int x2), (3, .int x3)] [.int (Int32.ofInt 0)] S R _
          exact u_retb rfl rfl ⟨_, rfl, rfl, hD⟩
        · have hD := hD.2 h2
          show u_P L xs m d m_X11_sightingsStand 55 [(6, .int (f_X8_at (((Int32.ofInt 3) * x3) + (Int32.ofInt 2)) S)), (5, .int (f_X8_at (((Int32.ofInt 3) * x3) + (Int32.ofInt 1)) S)), (4, .int (f_X8_at ((Int32.ofInt 3) * x3) S)), (0, .ref 1), (1, .int x1), (2, .int x2), (3, .int x3)] [] S R _
          refine u_st rfl (fun _ => rfl) ?_
          refine u_st rfl (fun _ => rfl) ?_
          show u_P L xs m d m_X11_sightingsStand 59 [(6, .int (f_X8_at (((Int32.ofInt 3) * x3) + (Int32.ofInt 2)) S)), (5, .int (f_X8_at (((Int32.ofInt 3) * x3) + (Int32.ofInt 1)) S)), (4, .int (f_X8_at ((Int32.ofInt 3) * x3) S)), (0, .ref 1), (1, .int x1), (2, .int x2), (3, .int x3)] [.int (f_X8_at (((Int32.ofInt 3) * x3) + (Int32.ofInt 2)) S), .int (f_X8_at (((Int32.ofInt 3) * x3) + (Int32.ofInt 1)) S)] S R _
          refine u_ic_gt rfl (fun h3 => ?_) (fun h3 => ?_)
          · have hD := hD.1 h3
            show u_P L xs m d m_X11_sightingsStand 70 [(6, .int (f_X8_at (((Int32.ofInt 3) * x3) + (Int32.ofInt 2)) S)), (5, .int (f_X8_at (((Int32.ofInt 3) * x3) + (Int32.ofInt 1)) S)), (4, .int (f_X8_at ((Int32.ofInt 3) * x3) S)), (0, .ref 1), (1, .int x1), (2, .int x2), (3, .int x3)] [] S R _
            refine u_st rfl (fun _ => rfl) ?_
            show u_P L xs m d m_X11_sightingsStand 71 [(6, .int (f_X8_at (((Int32.ofInt 3) * x3) + (Int32.ofInt 2)) S)), (5, .int (f_X8_at (((Int32.ofInt 3) * x3) + (Int32.ofInt 1)) S)), (4, .int (f_X8_at ((Int32.ofInt 3) * x3) S)), (0, .ref 1), (1, .int x1), (2, .int x2), (3, .int x3)] [.int (Int32.ofInt 0)] S R _
            exact u_retb rfl rfl ⟨_, rfl, rfl, hD⟩
          · have hD := hD.2 h3
            show u_P L xs m d m_X11_sightingsStand 62 [(6, .int (f_X8_at (((Int32.ofInt 3) * x3) + (Int32.ofInt 2)) S)), (5, .int (f_X8_at (((Int32.ofInt 3) * x3) + (Int32.ofInt 1)) S)), (4, .int (f_X8_at ((Int32.ofInt 3) * x3) S)), (0, .ref 1), (1, .int x1), (2, .int x2), (3, .int x3)] [] S R _
            refine u_st rfl (fun _ => rfl) ?_
            refine u_st rfl (fun _ => rfl) ?_
            show u_P L xs m d m_X11_sightingsStand 67 [(6, .int (f_X8_at (((Int32.ofInt 3) * x3) + (Int32.ofInt 2)) S)), (5, .int (f_X8_at (((Int32.ofInt 3) * x3) + (Int32.ofInt 1)) S)), (4, .int (f_X8_at ((Int32.ofInt 3) * x3) S)), (0, .ref 1), (1, .int x1), (2, .int x2), (3, .int x3)] [.int (Int32.ofInt 250), .int (f_X8_at (((Int32.ofInt 3) * x3) + (Int32.ofInt 2)) S)] S R _
            refine u_ic_le rfl (fun h4 => ?_) (fun h4 => ?_)
            · have hD := hD.1 h4
              show u_P L xs m d m_X11_sightingsStand 72 [(6, .int (f_X8_at (((Int32.ofInt 3) * x3) + (Int32.ofInt 2)) S)), (5, .int (f_X8_at (((Int32.ofInt 3) * x3) + (Int32.ofInt 1)) S)), (4, .int (f_X8_at ((Int32.ofInt 3) * x3) S)), (0, .ref 1), (1, .int x1), (2, .int x2), (3, .int x3)] [] S R _
              refine u_st rfl (fun _ => rfl) ?_
              refine u_st rfl (fun _ => rfl) ?_
              refine u_st rfl (fun _ => rfl) ?_
              refine u_st rfl (fun _ => rfl) ?_
              refine u_lc (b := [(0, .ref 1), (1, .int x1), (2, .int (f_X8_at ((Int32.ofInt 3) * x3) S)), (3, .int (x3 + (Int32.ofInt 1))), (4, .int (f_X8_at ((Int32.ofInt 3) * x3) S)), (5, .int (f_X8_at (((Int32.ofInt 3) * x3) + (Int32.ofInt 1)) S)), (6, .int (f_X8_at (((Int32.ofInt 3) * x3) + (Int32.ofInt 2)) S))]) (show ([3, 2, 6, 5, 4, 0, 1] : List Nat).Nodup by decide) (show ([0, 1, 2, 3, 4, 5, 6] : List Nat).Nodup by decide) (fun i => match i with | 0 => rfl | 1 => rfl | 2 => rfl | 3 => rfl | 4 => rfl | 5 => rfl | 6 => rfl | _ + 7 => rfl) ?_
              exact (ih m hm).2 d (f_X8_at ((Int32.ofInt 3) * x3) S) (f_X8_at (((Int32.ofInt 3) * x3) + (Int32.ofInt 1)) S) (f_X8_at (((Int32.ofInt 3) * x3) + (Int32.ofInt 2)) S) x1 (f_X8_at ((Int32.ofInt 3) * x3) S) (x3 + (Int32.ofInt 1)) S hD
            · have hD := hD.2 h4
              show u_P L xs m d m_X11_sightingsStand 70 [(6, .int (f_X8_at (((Int32.ofInt 3) * x3) + (Int32.ofInt 2)) S)), (5, .int (f_X8_at (((Int32.ofInt 3) * x3) + (Int32.ofInt 1)) S)), (4, .int (f_X8_at ((Int32.ofInt 3) * x3) S)), (0, .ref 1), (1, .int x1), (2, .int x2), (3, .int x3)] [] S R _
              refine u_st rfl (fun _ => rfl) ?_
              show u_P L xs m d m_X11_sightingsStand 71 [(6, .int (f_X8_at (((Int32.ofInt 3) * x3) + (Int32.ofInt 2)) S)), (5, .int (f_X8_at (((Int32.ofInt 3) * x3) + (Int32.ofInt 1)) S)), (4, .int (f_X8_at ((Int32.ofInt 3) * x3) S)), (0, .ref 1), (1, .int x1), (2, .int x2), (3, .int x3)] [.int (Int32.ofInt 0)] S R _
              exact u_retb rfl rfl ⟨_, rfl, rfl, hD⟩
    · intro d j4 j5 j6 x1 x2 x3 S hD
      have hD := k4 x1 x2 x3 S hD
      unfold D_X11_sightingsStand_4 at hD
      show u_P L xs n d m_X11_sightingsStand 4 [(0, .ref 1), (1, .int x1), (2, .int x2), (3, .int x3), (4, .int j4), (5, .int j5), (6, .int j6)] [] S R _
      refine u_st1 rfl (fun _ => rfl) (fun m hm => ?_)
      refine u_st rfl (fun _ => rfl) ?_
      show u_P L xs m d m_X11_sightingsStand 6 [(0, .ref 1), (1, .int x1), (2, .int x2), (3, .int x3), (4, .int j4), (5, .int j5), (6, .int j6)] [.int x1, .int x3] S R _
      refine u_ic_ge rfl (fun h1 => ?_) (fun h1 => ?_)
      · have hD := hD.1 h1
        show u_P L xs m d m_X11_sightingsStand 81 [(0, .ref 1), (1, .int x1), (2, .int x2), (3, .int x3), (4, .int j4), (5, .int j5), (6, .int j6)] [] S R _
        refine u_st rfl (fun _ => rfl) ?_
        show u_P L xs m d m_X11_sightingsStand 82 [(0, .ref 1), (1, .int x1), (2, .int x2), (3, .int x3), (4, .int j4), (5, .int j5), (6, .int j6)] [.int (Int32.ofInt 1)] S R _
        exact u_retb rfl rfl ⟨_, rfl, rfl, hD⟩
      · have hD := hD.2 h1
        show u_P L xs m d m_X11_sightingsStand 9 [(0, .ref 1), (1, .int x1), (2, .int x2), (3, .int x3), (4, .int j4), (5, .int j5), (6, .int j6)] [] S R _
        refine u_st rfl (fun _ => rfl) ?_
        show u_P L xs m d m_X11_sightingsStand 10 [(0, .ref 1), (1, .int x1), (2, .int x2), (3, .int x3), (4, .int j4), (5, .int j5), (6, .int j6)] [.ref 1] S R _
        refine u_getr rfl v_tyC rfl ?_
        refine u_st rfl (fun _ => rfl) ?_
        refine u_st rfl (fun _ => rfl) ?_
        refine u_st rfl (fun _ => rfl) ?_
        show u_P L xs m d m_X11_sightingsStand 16 [(0, .ref 1), (1, .int x1), (2, .int x2), (3, .int x3), (4, .int j4), (5, .int j5), (6, .int j6)] [.int ((Int32.ofInt 3) * x3), .ref 46] S R _
        refine u_cv (rest := []) rfl (by decide) mt_X8_at rfl rfl rfl rfl (Nat.le_of_ble_eq_true rfl) (Nat.le_of_ble_eq_true rfl) (Nat.le_of_ble_eq_true rfl) (fun d' => c_X8_at L xs m d' ((Int32.ofInt 3) * x3) S R) ?_
        rintro _ _ _ ⟨_, rfl, rfl, rfl, rfl⟩
        refine u_st rfl (fun _ => rfl) ?_
        refine u_st rfl (fun _ => rfl) ?_
        show u_P L xs m d m_X11_sightingsStand 22 [(4, .int (f_X8_at ((Int32.ofInt 3) * x3) S)), (0, .ref 1), (1, .int x1), (2, .int x2), (3, .int x3), (5, .int j5), (6, .int j6)] [.ref 1] S R _
        refine u_getr rfl v_tyC rfl ?_
        refine u_st rfl (fun _ => rfl) ?_
        refine u_st rfl (fun _ => rfl) ?_
        refine u_st rfl (fun _ => rfl) ?_
        refine u_st rfl (fun _ => rfl) ?_
        refine u_st rfl (fun _ => rfl) ?_
        show u_P L xs m d m_X11_sightingsStand 30 [(4, .int (f_X8_at ((Int32.ofInt 3) * x3) S)), (0, .ref 1), (1, .int x1), (2, .int x2), (3, .int x3), (5, .int j5), (6, .int j6)] [.int (((Int32.ofInt 3) * x3) + (Int32.ofInt 1)), .ref 46] S R _
        refine u_cv (rest := []) rfl (by decide) mt_X8_at rfl rfl rfl rfl (Nat.le_of_ble_eq_true rfl) (Nat.le_of_ble_eq_true rfl) (Nat.le_of_ble_eq_true rfl) (fun d' => c_X8_at L xs m d' (((Int32.ofInt 3) * x3) + (Int32.ofInt 1)) S R) ?_
        rintro _ _ _ ⟨_, rfl, rfl, rfl, rfl⟩
        refine u_st rfl (fun _ => rfl) ?_
        refine u_st rfl (fun _ => rfl) ?_
        show u_P L xs m d m_X11_sightingsStand 36 [(5, .int (f_X8_at (((Int32.ofInt 3) * x3) + (Int32.ofInt 1)) S)), (4, .int (f_X8_at ((Int32.ofInt 3) * x3) S)), (0, .ref 1), (1, .int x1), (2, .int x2), (3, .int x3), (6, .int j6)] [.ref 1] S R _
        refine u_getr rfl v_tyC rfl ?_
        refine u_st rfl (fun _ => rfl) ?_
        refine u_st rfl (fun _ => rfl) ?_
        refine u_st rfl (fun _ => rfl) ?_
        refine u_st rfl (fun _ => rfl) ?_
        refine u_st rfl (fun _ => rfl) ?_
        show u_P L xs m d m_X11_sightingsStand 44 [(5, .int (f_X8_at (((Int32.ofInt 3) * x3) + (Int32.ofInt 1)) S)), (4, .int (f_X8_at ((Int32.ofInt 3) * x3) S)), (0, .ref 1), (1, .int x1), (2, .int x2), (3, .int x3), (6, .int j6)] [.int (((Int32.ofInt 3) * x3) + (Int32.ofInt 2)), .ref 46] S R _
        refine u_cv (rest := []) rfl (by decide) mt_X8_at rfl rfl rfl rfl (Nat.le_of_ble_eq_true rfl) (Nat.le_of_ble_eq_true rfl) (Nat.le_of_ble_eq_true rfl) (fun d' => c_X8_at L xs m d' (((Int32.ofInt 3) * x3) + (Int32.ofInt 2)) S R) ?_
        rintro _ _ _ ⟨_, rfl, rfl, rfl, rfl⟩
        refine u_st rfl (fun _ => rfl) ?_
        refine u_st rfl (fun _ => rfl) ?_
        refine u_st rfl (fun _ => rfl) ?_
        show u_P L xs m d m_X11_sightingsStand 52 [(6, .int (f_X8_at (((Int32.ofInt 3) * x3) + (Int32.ofInt 2)) S)), (5, .int (f_X8_at (((Int32.ofInt 3) * x3) + (Int32.ofInt 1)) S)), (4, .int (f_X8_at ((Int32.ofInt 3) * x3) S)), (0, .ref 1), (1, .int x1), (2, .int x2), (3, .int x3)] [.int x2, .int (f_X8_at ((Int32.ofInt 3) * x3) S)] S R _
        refine u_ic_le rfl (fun h2 => ?_) (fun h2 => ?_)
        · have hD := hD.1 h2
          show u_P L xs m d m_X11_sightingsStand 70 [(6, .int (f_X8_at (((Int32.ofInt 3) * x3) + (Int32.ofInt 2)) S)), (5, .int (f_X8_at (((Int32.ofInt 3) * x3) + (Int32.ofInt 1)) S)), (4, .int (f_X8_at ((Int32.ofInt 3) * x3) S)), (0, .ref 1), (1, .int x1), (2, .int x2), (3, .int x3)] [] S R _
          refine u_st rfl (fun _ => rfl) ?_
          show u_P L xs m d m_X11_sightingsStand 71 [(6, .int (f_X8_at (((Int32.ofInt 3) * x3) + (Int32.ofInt 2)) S)), (5, .int (f_X8_at (((Int32.ofInt 3) * x3) + (Int32.ofInt 1)) S)), (4, .int (f_X8_at ((Int32.ofInt 3) * x3) S)), (0, .ref 1), (1, .int x1), (2, .int x2), (3, .int x3)] [.int (Int32.ofInt 0)] S R _
          exact u_retb rfl rfl ⟨_, rfl, rfl, hD⟩
        · have hD := hD.2 h2
          show u_P L xs m d m_X11_sightingsStand 55 [(6, .int (f_X8_at (((Int32.ofInt 3) * x3) + (Int32.ofInt 2)) S)), (5, .int (f_X8_at (((Int32.ofInt 3) * x3) + (Int32.ofInt 1)) S)), (4, .int (f_X8_at ((Int32.ofInt 3) * x3) S)), (0, .ref 1), (1, .int x1), (2, .int x2), (3, .int x3)] [] S R _
          refine u_st rfl (fun _ => rfl) ?_
          refine u_st rfl (fun _ => rfl) ?_
          show u_P L xs m d m_X11_sightingsStand 59 [(6, .int (f_X8_at (((Int32.ofInt 3) * x3) + (Int32.ofInt 2)) S)), (5, .int (f_X8_at (((Int32.ofInt 3) * x3) + (Int32.ofInt 1)) S)), (4, .int (f_X8_at ((Int32.ofInt 3) * x3) S)), (0, .ref 1), (1, .int x1), (2, .int x2), (3, .int x3)] [.int (f_X8_at (((Int32.ofInt 3) * x3) + (Int32.ofInt 2)) S), .int (f_X8_at (((Int32.ofInt 3) * x3) + (Int32.ofInt 1)) S)] S R _
          refine u_ic_gt rfl (fun h3 => ?_) (fun h3 => ?_)
          · have hD := hD.1 h3
            show u_P L xs m d m_X11_sightingsStand 70 [(6, .int (f_X8_at (((Int32.ofInt 3) * x3) + (Int32.ofInt 2)) S)), (5, .int (f_X8_at (((Int32.ofInt 3) * x3) + (Int32.ofInt 1)) S)), (4, .int (f_X8_at ((Int32.ofInt 3) * x3) S)), (0, .ref 1), (1, .int x1), (2, .int x2), (3, .int x3)] [] S R _
            refine u_st rfl (fun _ => rfl) ?_
            show u_P L xs m d m_X11_sightingsStand 71 [(6, .int (f_X8_at (((Int32.ofInt 3) * x3) + (Int32.ofInt 2)) S)), (5, .int (f_X8_at (((Int32.ofInt 3) * x3) + (Int32.ofInt 1)) S)), (4, .int (f_X8_at ((Int32.ofInt 3) * x3) S)), (0, .ref 1), (1, .int x1), (2, .int x2), (3, .int x3)] [.int (Int32.ofInt 0)] S R _
            exact u_retb rfl rfl ⟨_, rfl, rfl, hD⟩
          · have hD := hD.2 h3
            show u_P L xs m d m_X11_sightingsStand 62 [(6, .int (f_X8_at (((Int32.ofInt 3) * x3) + (Int32.ofInt 2)) S)), (5, .int (f_X8_at (((Int32.ofInt 3) * x3) + (Int32.ofInt 1)) S)), (4, .int (f_X8_at ((Int32.ofInt 3) * x3) S)), (0, .ref 1), (1, .int x1), (2, .int x2), (3, .int x3)] [] S R _
            refine u_st rfl (fun _ => rfl) ?_
            refine u_st rfl (fun _ => rfl) ?_
            show u_P L xs m d m_X11_sightingsStand 67 [(6, .int (f_X8_at (((Int32.ofInt 3) * x3) + (Int32.ofInt 2)) S)), (5, .int (f_X8_at (((Int32.ofInt 3) * x3) + (Int32.ofInt 1)) S)), (4, .int (f_X8_at ((Int32.ofInt 3) * x3) S)), (0, .ref 1), (1, .int x1), (2, .int x2), (3, .int x3)] [.int (Int32.ofInt 250), .int (f_X8_at (((Int32.ofInt 3) * x3) + (Int32.ofInt 2)) S)] S R _
            refine u_ic_le rfl (fun h4 => ?_) (fun h4 => ?_)
            · have hD := hD.1 h4
              show u_P L xs m d m_X11_sightingsStand 72 [(6, .int (f_X8_at (((Int32.ofInt 3) * x3) + (Int32.ofInt 2)) S)), (5, .int (f_X8_at (((Int32.ofInt 3) * x3) + (Int32.ofInt 1)) S)), (4, .int (f_X8_at ((Int32.ofInt 3) * x3) S)), (0, .ref 1), (1, .int x1), (2, .int x2), (3, .int x3)] [] S R _
              refine u_st rfl (fun _ => rfl) ?_
              refine u_st rfl (fun _ => rfl) ?_
              refine u_st rfl (fun _ => rfl) ?_
              refine u_st rfl (fun _ => rfl) ?_
              refine u_lc (b := [(0, .ref 1), (1, .int x1), (2, .int (f_X8_at ((Int32.ofInt 3) * x3) S)), (3, .int (x3 + (Int32.ofInt 1))), (4, .int (f_X8_at ((Int32.ofInt 3) * x3) S)), (5, .int (f_X8_at (((Int32.ofInt 3) * x3) + (Int32.ofInt 1)) S)), (6, .int (f_X8_at (((Int32.ofInt 3) * x3) + (Int32.ofInt 2)) S))]) (show ([3, 2, 6, 5, 4, 0, 1] : List Nat).Nodup by decide) (show ([0, 1, 2, 3, 4, 5, 6] : List Nat).Nodup by decide) (fun i => match i with | 0 => rfl | 1 => rfl | 2 => rfl | 3 => rfl | 4 => rfl | 5 => rfl | 6 => rfl | _ + 7 => rfl) ?_
              exact (ih m hm).2 d (f_X8_at ((Int32.ofInt 3) * x3) S) (f_X8_at (((Int32.ofInt 3) * x3) + (Int32.ofInt 1)) S) (f_X8_at (((Int32.ofInt 3) * x3) + (Int32.ofInt 2)) S) x1 (f_X8_at ((Int32.ofInt 3) * x3) S) (x3 + (Int32.ofInt 1)) S hD
            · have hD := hD.2 h4
              show u_P L xs m d m_X11_sightingsStand 70 [(6, .int (f_X8_at (((Int32.ofInt 3) * x3) + (Int32.ofInt 2)) S)), (5, .int (f_X8_at (((Int32.ofInt 3) * x3) + (Int32.ofInt 1)) S)), (4, .int (f_X8_at ((Int32.ofInt 3) * x3) S)), (0, .ref 1), (1, .int x1), (2, .int x2), (3, .int x3)] [] S R _
              refine u_st rfl (fun _ => rfl) ?_
              show u_P L xs m d m_X11_sightingsStand 71 [(6, .int (f_X8_at (((Int32.ofInt 3) * x3) + (Int32.ofInt 2)) S)), (5, .int (f_X8_at (((Int32.ofInt 3) * x3) + (Int32.ofInt 1)) S)), (4, .int (f_X8_at ((Int32.ofInt 3) * x3) S)), (0, .ref 1), (1, .int x1), (2, .int x2), (3, .int x3)] [.int (Int32.ofInt 0)] S R _
              exact u_retb rfl rfl ⟨_, rfl, rfl, hD⟩
set_option maxRecDepth 4000 in
theorem w_X11_sightingsStand (L : Nat) (xs : Nat → Int32) {R : v_Rf} (a : Int32) (H4 : Int32 → Int32 → Int32 → v_Sf → Prop) (K : Int32 → v_Sf → Prop) (k4 : ∀ (x1 : Int32) (x2 : Int32) (x3 : Int32) (S : v_Sf), H4 x1 x2 x3 S → D_X11_sightingsStand_4 H4 K x1 x2 x3 S) (n d : Nat) (S : v_Sf) (hD : D_X11_sightingsStand a H4 K S) : u_P L xs n d m_X11_sightingsStand 0 (lv_args 0 [.ref 1, .int a]) [] S R (z_Q R K) := by
  unfold D_X11_sightingsStand at hD
  show u_P L xs n d m_X11_sightingsStand 0 [(0, .ref 1), (1, .int a)] [] S R _
  refine u_st rfl (fun _ => rfl) ?_
  refine u_st rfl (fun _ => rfl) ?_
  refine u_st rfl (fun _ => rfl) ?_
  refine u_st rfl (fun _ => rfl) ?_
  refine u_lc (b := [(0, .ref 1), (1, .int a), (2, .int (Int32.ofInt (-1))), (3, .int (Int32.ofInt 0))]) (show ([3, 2, 0, 1] : List Nat).Nodup by decide) (show ([0, 1, 2, 3] : List Nat).Nodup by decide) (fun i => match i with | 0 => rfl | 1 => rfl | 2 => rfl | 3 => rfl | _ + 4 => rfl) ?_
  exact (hd_X11_sightingsStand L xs a H4 K k4 n).1 d a (Int32.ofInt (-1)) (Int32.ofInt 0) S hD
noncomputable def r_X11_sightingsStand_4 (x1 : Int32) (S : v_Sf) : Nat → Nat → Int32 → Int32
  | 0, k4, x2 => Int32.ofInt 1
  | r + 1, k4, x2 => (if (f_X8_at ((Int32.ofInt 3) * (z_i k4)) S) ≤ x2 then Int32.ofInt 0 else (if (f_X8_at (((Int32.ofInt 3) * (z_i k4)) + (Int32.ofInt 2)) S) < (f_X8_at (((Int32.ofInt 3) * (z_i k4)) + (Int32.ofInt 1)) S) then Int32.ofInt 0 else (if (f_X8_at (((Int32.ofInt 3) * (z_i k4)) + (Int32.ofInt 2)) S) ≤ (Int32.ofInt 250) then r_X11_sightingsStand_4 x1 S r (k4 + 1) (f_X8_at ((Int32.ofInt 3) * (z_i k4)) S) else Int32.ofInt 0)))
noncomputable def F_X11_sightingsStand (a : Int32) (S : v_Sf) : Int32 := r_X11_sightingsStand_4 a S (a.toInt.toNat - 0) 0 (Int32.ofInt (-1))
noncomputable def f_X11_sightingsStand (a : Int32) (S : v_Sf) : Int32 := F_X11_sightingsStand a S
theorem c_X11_sightingsStand (L : Nat) (xs : Nat → Int32) (n d : Nat) (a : Int32) (S : v_Sf) (R : v_Rf) : u_P L xs n d m_X11_sightingsStand 0 (lv_args 0 [.ref 1, .int a]) [] S R (z_Q R (fun v S1 => f_X11_sightingsStand a S = v ∧ S = S1)) := by
  refine w_X11_sightingsStand L xs a (fun y1 y2 y3 T => ∃ (k4 : Nat), k4 ≤ a.toInt.toNat ∧ z_i k4 = y3 ∧ a = y1 ∧ S = T ∧ r_X11_sightingsStand_4 a S (a.toInt.toNat - k4) k4 y2 = F_X11_sightingsStand a S) (fun v S1 => f_X11_sightingsStand a S = v ∧ S = S1) ?_ n d S ?_
  · rintro _ x2 _ _ ⟨k4, hkk, rfl, rfl, rfl, e⟩
    unfold D_X11_sightingsStand_4
    rcases Nat.lt_or_ge k4 (a.toInt.toNat) with hk | hk
    · rw [show a.toInt.toNat - k4 = (a.toInt.toNat - (k4 + 1)) + 1 by omega, r_X11_sightingsStand_4] at e
      refine ⟨fun q1 => ?_, fun q1 => ?_⟩
      · exact absurd hk (Nat.not_lt.mpr (z_leV q1 (by omega)))
      · refine ⟨fun q2 => ?_, fun q2 => ?_⟩
        · rw [if_pos q2] at e
          exact ⟨e.symm, rfl⟩
        · refine ⟨fun q3 => ?_, fun q3 => ?_⟩
          · rw [if_neg q2, if_pos q3] at e
            exact ⟨e.symm, rfl⟩
          · refine ⟨fun q4 => ?_, fun q4 => ?_⟩
            · rw [if_neg q2, if_neg q3, if_pos q4] at e
              exact ⟨(k4 + 1), by omega, (z_i1 k4).symm, rfl, rfl, e⟩
            · rw [if_neg q2, if_neg q3, if_neg q4] at e
              exact ⟨e.symm, rfl⟩
    · rw [show a.toInt.toNat - k4 = 0 by omega, r_X11_sightingsStand_4] at e
      refine ⟨fun q5 => ?_, fun q5 => ?_⟩
      · exact ⟨e.symm, rfl⟩
      · exact absurd hk (Nat.not_le.mpr (z_ltV q5 (by omega)))
  · unfold D_X11_sightingsStand
    have e : r_X11_sightingsStand_4 a S (a.toInt.toNat - 0) 0 (Int32.ofInt (-1)) = F_X11_sightingsStand a S := by rw [F_X11_sightingsStand]
    exact ⟨0, by omega, rfl, rfl, rfl, e⟩
noncomputable abbrev m_X11_sightingsAgree : g_M := (g_cn 11, yX11_sightingsAgree, cX11_sightingsAgree, 6, (some .boolean), g_look2 ttX11_sightingsAgree)
set_option maxRecDepth 20000 in
theorem mt_X11_sightingsAgree : g_mt 158 = some m_X11_sightingsAgree := rfl
noncomputable def D_X11_sightingsAgree_2  (H2 : Int32 → Int32 → Int32 → v_Sf → Prop) (H10 : Int32 → Int32 → Int32 → Int32 → v_Sf → Prop) (K : Int32 → v_Sf → Prop) (x1 : Int32) (x2 : Int32) (x3 : Int32) (S : v_Sf) : Prop := ((x1 ≤ x3 → K (Int32.ofInt 1) S) ∧ (¬ (x1 ≤ x3) → H10 x1 x2 x3 (Int32.ofInt 0) S))
noncomputable def D_X11_sightingsAgree_10  (H2 : Int32 → Int32 → Int32 → v_Sf → Prop) (H10 : Int32 → Int32 → Int32 → Int32 → v_Sf → Prop) (K : Int32 → v_Sf → Prop) (x1 : Int32) (x2 : Int32) (x3 : Int32) (x4 : Int32) (S : v_Sf) : Prop := ((x1 ≤ x4 → H2 x1 x2 (x3 + (Int32.ofInt 1)) S) ∧ (¬ (x1 ≤ x4) → ((((f_X8_at (((Int32.ofInt 3) * x3) + (Int32.ofInt 1)) S) - (f_X8_at (((Int32.ofInt 3) * x4) + (Int32.ofInt 2)) S)) ≤ (x2 * (z_abs ((f_X8_at ((Int32.ofInt 3) * x3) S) - (f_X8_at ((Int32.ofInt 3) * x4) S)))) → H10 x1 x2 x3 (x4 + (Int32.ofInt 1)) S) ∧ (¬ (((f_X8_at (((Int32.ofInt 3) * x3) + (Int32.ofInt 1)) S) - (f_X8_at (((Int32.ofInt 3) * x4) + (Int32.ofInt 2)) S)) ≤ (x2 * (z_abs ((f_X8_at ((Int32.ofInt 3) * x3) S) - (f_X8_at ((Int32.ofInt 3) * x4) S))))) → K (Int32.ofInt 0) S))))
noncomputable def D_X11_sightingsAgree (a : Int32) (b : Int32) (H2 : Int32 → Int32 → Int32 → v_Sf → Prop) (H10 : Int32 → Int32 → Int32 → Int32 → v_Sf → Prop) (K : Int32 → v_Sf → Prop) (S : v_Sf) : Prop := H2 a b (Int32.ofInt 0) S
set_option maxRecDepth 4000 in
theorem hd_X11_sightingsAgree (L : Nat) (xs : Nat → Int32) {R : v_Rf} (a : Int32) (b : Int32) (H2 : Int32 → Int32 → Int32 → v_Sf → Prop) (H10 : Int32 → Int32 → Int32 → Int32 → v_Sf → Prop) (K : Int32 → v_Sf → Prop) (k2 : ∀ (x1 : Int32) (x2 : Int32) (x3 : Int32) (S : v_Sf), H2 x1 x2 x3 S → D_X11_sightingsAgree_2 H2 H10 K x1 x2 x3 S) (k10 : ∀ (x1 : Int32) (x2 : Int32) (x3 : Int32) (x4 : Int32) (S : v_Sf), H10 x1 x2 x3 x4 S → D_X11_sightingsAgree_10 H2 H10 K x1 x2 x3 x4 S) : ∀ n, (∀ (d : Nat) (x1 : Int32) (x2 : Int32) (x3 : Int32) (S : v_Sf), H2 x1 x2 x3 S → u_P L xs n d m_X11_sightingsAgree 2 [(0, .ref 1), (1, .int x1), (2, .int x2), (3, .int x3)] [] S R (z_Q R K)) ∧ (∀ (d : Nat) (j4 : Int32) (x1 : Int32) (x2 : Int32) (x3 : Int32) (S : v_Sf), H2 x1 x2 x3 S → u_P L xs n d m_X11_sightingsAgree 2 [(0, .ref 1), (1, .int x1), (2, .int x2), (3, .int x3), (4, .int j4)] [] S R (z_Q R K)) ∧ (∀ (d : Nat) (j4 : Int32) (j5 : Int32) (x1 : Int32) (x2 : Int32) (x3 : Int32) (S : v_Sf), H2 x1 x2 x3 S → u_P L xs n d m_X11_sightingsAgree 2 [(0, .ref 1), (1, .int x1), (2, .int x2), (3, .int x3), (4, .int j4), (5, .int j5)] [] S R (z_Q R K)) ∧ (∀ (d : Nat) (x1 : Int32) (x2 : Int32) (x3 : Int32) (x4 : Int32) (S : v_Sf), H10 x1 x2 x3 x4 S → u_P L xs n d m_X11_sightingsAgree 10 [(0, .ref 1), (1, .int x1), (2, .int x2), (3, .int x3), (4, .int x4)] [] S R (z_Q R K)) ∧ (∀ (d : Nat) (j5 : Int32) (x1 : Int32) (x2 : Int32) (x3 : Int32) (x4 : Int32) (S : v_Sf), H10 x1 x2 x3 x4 S → u_P L xs n d m_X11_sightingsAgree 10 [(0, .ref 1), (1, .int x1), (2, .int x2), (3, .int x3), (4, .int x4), (5, .int j5)] [] S R (z_Q R K)) := by
  intro n
  induction n using Nat.strongRecOn with
  | ind n ih =>
    refine ⟨?_, ?_, ?_, ?_, ?_⟩
    · intro d x1 x2 x3 S hD
      have hD := k2 x1 x2 x3 S hD
      unfold D_X11_sightingsAgree_2 at hD
      show u_P L xs n d m_X11_sightingsAgree 2 [(0, .ref 1), (1, .int x1), (2, .int x2), (3, .int x3)] [] S R _
      refine u_st1 rfl (fun _ => rfl) (fun m hm => ?_)
      refine u_st rfl (fun _ => rfl) ?_
      show u_P L xs m d m_X11_sightingsAgree 4 [(0, .ref 1), (1, .int x1), (2, .int x2), (3, .int x3)] [.int x1, .int x3] S R _
      refine u_ic_ge rfl (fun h1 => ?_) (fun h1 => ?_)
      · have hD := hD.1 h1
        show u_P L xs m d m_X11_sightingsAgree 90 [(0, .ref 1), (1, .int x1), (2, .int x2), (3, .int x3)] [] S R _
        refine u_st rfl (fun _ => rfl) ?_
        show u_P L xs m d m_X11_sightingsAgree 91 [(0, .ref 1), (1, .int x1), (2, .int x2), (3, .int x3)] [.int (Int32.ofInt 1)] S R _
        exact u_retb rfl rfl ⟨_, rfl, rfl, hD⟩
      · have hD := hD.2 h1
        show u_P L xs m d m_X11_sightingsAgree 7 [(0, .ref 1), (1, .int x1), (2, .int x2), (3, .int x3)] [] S R _
        refine u_st rfl (fun _ => rfl) ?_
        refine u_st rfl (fun _ => rfl) ?_
        refine u_lc (b := [(0, .ref 1), (1, .int x1), (2, .int x2), (3, .int x3), (4, .int (Int32.ofInt 0))]) (show ([4, 0, 1, 2, 3] : List Nat).Nodup by decide) (show ([0, 1, 2, 3, 4] : List Nat).Nodup by decide) (fun i => match i with | 0 => rfl | 1 => rfl | 2 => rfl | 3 => rfl | 4 => rfl | _ + 5 => rfl) ?_
        exact (ih m hm).2.2.2.1 d x1 x2 x3 (Int32.ofInt 0) S hD
    · intro d j4 x1 x2 x3 S hD
      have hD := k2 x1 x2 x3 S hD
      unfold D_X11_sightingsAgree_2 at hD
      show u_P L xs n d m_X11_sightingsAgree 2 [(0, .ref 1), (1, .int x1), (2, .int x2), (3, .int x3), (4, .int j4)] [] S R _
      refine u_st1 rfl (fun _ => rfl) (fun m hm => ?_)
      refine u_st rfl (fun _ => rfl) ?_
      show u_P L xs m d m_X11_sightingsAgree 4 [(0, .ref 1), (1, .int x1), (2, .int x2), (3, .int x3), (4, .int j4)] [.int x1, .int x3] S R _
      refine u_ic_ge rfl (fun h1 => ?_) (fun h1 => ?_)
      · have hD := hD.1 h1
        show u_P L xs m d m_X11_sightingsAgree 90 [(0, .ref 1), (1, .int x1), (2, .int x2), (3, .int x3), (4, .int j4)] [] S R _
        refine u_st rfl (fun _ => rfl) ?_
        show u_P L xs m d m_X11_sightingsAgree 91 [(0, .ref 1), (1, .int x1), (2, .int x2), (3, .int x3), (4, .int j4)] [.int (Int32.ofInt 1)] S R _
        exact u_retb rfl rfl ⟨_, rfl, rfl, hD⟩
      · have hD := hD.2 h1
        show u_P L xs m d m_X11_sightingsAgree 7 [(0, .ref 1), (1, .int x1), (2, .int x2), (3, .int x3), (4, .int j4)] [] S R _
        refine u_st rfl (fun _ => rfl) ?_
        refine u_st rfl (fun _ => rfl) ?_
        refine u_lc (b := [(0, .ref 1), (1, .int x1), (2, .int x2), (3, .int x3), (4, .int (Int32.ofInt 0))]) (show ([4, 0, 1, 2, 3] : List Nat).Nodup by decide) (show ([0, 1, 2, 3, 4] : List Nat).Nodup by decide) (fun i => match i with | 0 => rfl | 1 => rfl | 2 => rfl | 3 => rfl | 4 => rfl | _ + 5 => rfl) ?_
        exact (ih m hm).2.2.2.1 d x1 x2 x3 (Int32.ofInt 0) S hD
    · intro d j4 j5 x1 x2 x3 S hD
      have hD := k2 x1 x2 x3 S hD
      unfold D_X11_sightingsAgree_2 at hD
      show u_P L xs n d m_X11_sightingsAgree 2 [(0, .ref 1), (1, .int x1), (2, .int x2), (3, .int x3), (4, .int j4), (5, .int j5)] [] S R _
      refine u_st1 rfl (fun _ => rfl) (fun m hm => ?_)
      refine u_st rfl (fun _ => rfl) ?_
      show u_P L xs m d m_X11_sightingsAgree 4 [(0, .ref 1), (1, .int x1), (2, .int x2), (3, .int x3), (4, .int j4), (5, .int j5)] [.int x1, .int x3] S R _
      refine u_ic_ge rfl (fun h1 => ?_) (fun h1 => ?_)
      · have hD := hD.1 h1
        show u_P L xs m d m_X11_sightingsAgree 90 [(0, .ref 1), (1, .int x1), (2, .int x2), (3, .int x3), (4, .int j4), (5, .int j5)] [] S R _
        refine u_st rfl (fun _ => rfl) ?_
        show u_P L xs m d m_X11_sightingsAgree 91 [(0, .ref 1), (1, .int x1), (2, .int x2), (3, .int x3), (4, .int j4), (5, .int j5)] [.int (Int32.ofInt 1)] S R _
        exact u_retb rfl rfl ⟨_, rfl, rfl, hD⟩
      · have hD := hD.2 h1
        show u_P L xs m d m_X11_sightingsAgree 7 [(0, .ref 1), (1, .int x1), (2, .int x2), (3, .int x3), (4, .int j4), (5, .int j5)] [] S R _
        refine u_st rfl (fun _ => rfl) ?_
        refine u_st rfl (fun _ => rfl) ?_
        refine u_lc (b := [(0, .ref 1), (1, .int x1), (2, .int x2), (3, .int x3), (4, .int (Int32.ofInt 0)), (5, .int j5)]) (show ([4, 0, 1, 2, 3, 5] : List Nat).Nodup by decide) (show ([0, 1, 2, 3, 4, 5] : List Nat).Nodup by decide) (fun i => match i with | 0 => rfl | 1 => rfl | 2 => rfl | 3 => rfl | 4 => rfl | 5 => rfl | _ + 6 => rfl) ?_
        exact (ih m hm).2.2.2.2 d j5 x1 x2 x3 (Int32.ofInt 0) S hD
    · intro d x1 x2 x3 x4 S hD
      have hD := k10 x1 x2 x3 x4 S hD
      unfold D_X11_sightingsAgree_10 at hD
      show u_P L xs n d m_X11_sightingsAgree 10 [(0, .ref 1), (1, .int x1), (2, .int x2), (3, .int x3), (4, .int x4)] [] S R _
      refine u_st1 rfl (fun _ => rfl) (fun m hm => ?_)
      refine u_st rfl (fun _ => rfl) ?_
      show u_P L xs m d m_X11_sightingsAgree 13 [(0, .ref 1), (1, .int x1), (2, .int x2), (3, .int x3), (4, .int x4)] [.int x1, .int x4] S R _
      refine u_ic_ge rfl (fun h1 => ?_) (fun h1 => ?_)
      · have hD := hD.1 h1
        show u_P L xs m d m_X11_sightingsAgree 84 [(0, .ref 1), (1, .int x1), (2, .int x2), (3, .int x3), (4, .int x4)] [] S R _
        refine u_st rfl (fun _ => rfl) ?_
        refine u_st rfl (fun _ => rfl) ?_
        refine u_lc (b := [(0, .ref 1), (1, .int x1), (2, .int x2), (3, .int (x3 + (Int32.ofInt 1))), (4, .int x4)]) (show ([3, 0, 1, 2, 4] : List Nat).Nodup by decide) (show ([0, 1, 2, 3, 4] : List Nat).Nodup by decide) (fun i => match i with | 0 => rfl | 1 => rfl | 2 => rfl | 3 => rfl | 4 => rfl | _ + 5 => rfl) ?_
        exact (ih m hm).2.1 d x4 x1 x2 (x3 + (Int32.ofInt 1)) S hD
      · have hD := hD.2 h1
        show u_P L xs m d m_X11_sightingsAgree 16 [(0, .ref 1), (1, .int x1), (2, .int x2), (3, .int x3), (4, .int x4)] [] S R _
        refine u_st rfl (fun _ => rfl) ?_
        refine u_st rfl (fun _ => rfl) ?_
        show u_P L xs m d m_X11_sightingsAgree 18 [(0, .ref 1), (1, .int x1), (2, .int x2), (3, .int x3), (4, .int x4)] [.ref 1, .int x2] S R _
        refine u_getr rfl v_tyC rfl ?_
        refine u_st rfl (fun _ => rfl) ?_
        refine u_st rfl (fun _ => rfl) ?_
        refine u_st rfl (fun _ => rfl) ?_
        show u_P L xs m d m_X11_sightingsAgree 24 [(0, .ref 1), (1, .int x1), (2, .int x2), (3, .int x3), (4, .int x4)] [.int ((Int32.ofInt 3) * x3), .ref 46, .int x2] S R _
        refine u_cv (rest := [.int x2]) rfl (by decide) mt_X8_at rfl rfl rfl rfl (Nat.le_of_ble_eq_true rfl) (Nat.le_of_ble_eq_true rfl) (Nat.le_of_ble_eq_true rfl) (fun d' => c_X8_at L xs m d' ((Int32.ofInt 3) * x3) S R) ?_
        rintro _ _ _ ⟨_, rfl, rfl, rfl, rfl⟩
        refine u_st rfl (fun _ => rfl) ?_
        show u_P L xs m d m_X11_sightingsAgree 28 [(0, .ref 1), (1, .int x1), (2, .int x2), (3, .int x3), (4, .int x4)] [.ref 1, .int (f_X8_at ((Int32.ofInt 3) * x3) S), .int x2] S R _
        refine u_getr rfl v_tyC rfl ?_
        refine u_st rfl (fun _ => rfl) ?_
        refine u_st rfl (fun _ => rfl) ?_
        refine u_st rfl (fun _ => rfl) ?_
        show u_P L xs m d m_X11_sightingsAgree 35 [(0, .ref 1), (1, .int x1), (2, .int x2), (3, .int x3), (4, .int x4)] [.int ((Int32.ofInt 3) * x4), .ref 46, .int (f_X8_at ((Int32.ofInt 3) * x3) S), .int x2] S R _
        refine u_cv (rest := [.int (f_X8_at ((Int32.ofInt 3) * x3) S), .int x2]) rfl (by decide) mt_X8_at rfl rfl rfl rfl (Nat.le_of_ble_eq_true rfl) (Nat.le_of_ble_eq_true rfl) (Nat.le_of_ble_eq_true rfl) (fun d' => c_X8_at L xs m d' ((Int32.ofInt 3) * x4) S R) ?_
        rintro _ _ _ ⟨_, rfl, rfl, rfl, rfl⟩
        refine u_st rfl (fun _ => rfl) ?_
        show u_P L xs m d m_X11_sightingsAgree 39 [(0, .ref 1), (1, .int x1), (2, .int x2), (3, .int x3), (4, .int x4)] [.int ((f_X8_at ((Int32.ofInt 3) * x3) S) - (f_X8_at ((Int32.ofInt 3) * x4) S)), .int x2] S R _
        refine u_abs rfl ?_
        refine u_st rfl (fun _ => rfl) ?_
        refine u_st rfl (fun _ => rfl) ?_
        refine u_st rfl (fun _ => rfl) ?_
        show u_P L xs m d m_X11_sightingsAgree 46 [(5, .int (x2 * (z_abs ((f_X8_at ((Int32.ofInt 3) * x3) S) - (f_X8_at ((Int32.ofInt 3) * x4) S))))), (0, .ref 1), (1, .int x1), (2, .int x2), (3, .int x3), (4, .int x4)] [.ref 1] S R _
        refine u_getr rfl v_tyC rfl ?_
        refine u_st rfl (fun _ => rfl) ?_
        refine u_st rfl (fun _ => rfl) ?_
        refine u_st rfl (fun _ => rfl) ?_
        refine u_st rfl (fun _ => rfl) ?_
        refine u_st rfl (fun _ => rfl) ?_
        show u_P L xs m d m_X11_sightingsAgree 54 [(5, .int (x2 * (z_abs ((f_X8_at ((Int32.ofInt 3) * x3) S) - (f_X8_at ((Int32.ofInt 3) * x4) S))))), (0, .ref 1), (1, .int x1), (2, .int x2), (3, .int x3), (4, .int x4)] [.int (((Int32.ofInt 3) * x3) + (Int32.ofInt 1)), .ref 46] S R _
        refine u_cv (rest := []) rfl (by decide) mt_X8_at rfl rfl rfl rfl (Nat.le_of_ble_eq_true rfl) (Nat.le_of_ble_eq_true rfl) (Nat.le_of_ble_eq_true rfl) (fun d' => c_X8_at L xs m d' (((Int32.ofInt 3) * x3) + (Int32.ofInt 1)) S R) ?_
        rintro _ _ _ ⟨_, rfl, rfl, rfl, rfl⟩
        refine u_st rfl (fun _ => rfl) ?_
        show u_P L xs m d m_X11_sightingsAgree 58 [(5, .int (x2 * (z_abs ((f_X8_at ((Int32.ofInt 3) * x3) S) - (f_X8_at ((Int32.ofInt 3) * x4) S))))), (0, .ref 1), (1, .int x1), (2, .int x2), (3, .int x3), (4, .int x4)] [.ref 1, .int (f_X8_at (((Int32.ofInt 3) * x3) + (Int32.ofInt 1)) S)] S R _
        refine u_getr rfl v_tyC rfl ?_
        refine u_st rfl (fun _ => rfl) ?_
        refine u_st rfl (fun _ => rfl) ?_
        refine u_st rfl (fun _ => rfl) ?_
        refine u_st rfl (fun _ => rfl) ?_
        refine u_st rfl (fun _ => rfl) ?_
        show u_P L xs m d m_X11_sightingsAgree 67 [(5, .int (x2 * (z_abs ((f_X8_at ((Int32.ofInt 3) * x3) S) - (f_X8_at ((Int32.ofInt 3) * x4) S))))), (0, .ref 1), (1, .int x1), (2, .int x2), (3, .int x3), (4, .int x4)] [.int (((Int32.ofInt 3) * x4) + (Int32.ofInt 2)), .ref 46, .int (f_X8_at (((Int32.ofInt 3) * x3) + (Int32.ofInt 1)) S)] S R _
        refine u_cv (rest := [.int (f_X8_at (((Int32.ofInt 3) * x3) + (Int32.ofInt 1)) S)]) rfl (by decide) mt_X8_at rfl rfl rfl rfl (Nat.le_of_ble_eq_true rfl) (Nat.le_of_ble_eq_true rfl) (Nat.le_of_ble_eq_true rfl) (fun d' => c_X8_at L xs m d' (((Int32.ofInt 3) * x4) + (Int32.ofInt 2)) S R) ?_
        rintro _ _ _ ⟨_, rfl, rfl, rfl, rfl⟩
        refine u_st rfl (fun _ => rfl) ?_
        refine u_st rfl (fun _ => rfl) ?_
        show u_P L xs m d m_X11_sightingsAgree 73 [(5, .int (x2 * (z_abs ((f_X8_at ((Int32.ofInt 3) * x3) S) - (f_X8_at ((Int32.ofInt 3) * x4) S))))), (0, .ref 1), (1, .int x1), (2, .int x2), (3, .int x3), (4, .int x4)] [.int (x2 * (z_abs ((f_X8_at ((Int32.ofInt 3) * x3) S) - (f_X8_at ((Int32.ofInt 3) * x4) S)))), .int ((f_X8_at (((Int32.ofInt 3) * x3) + (Int32.ofInt 1)) S) - (f_X8_at (((Int32.ofInt 3) * x4) + (Int32.ofInt 2)) S))] S R _
        refine u_ic_le rfl (fun h2 => ?_) (fun h2 => ?_)
        · have hD := hD.1 h2
          show u_P L xs m d m_X11_sightingsAgree 78 [(5, .int (x2 * (z_abs ((f_X8_at ((Int32.ofInt 3) * x3) S) - (f_X8_at ((Int32.ofInt 3) * x4) S))))), (0, .ref 1), (1, .int x1), (2, .int x2), (3, .int x3), (4, .int x4)] [] S R _
          refine u_st rfl (fun _ => rfl) ?_
          refine u_st rfl (fun _ => rfl) ?_
          refine u_lc (b := [(0, .ref 1), (1, .int x1), (2, .int x2), (3, .int x3), (4, .int (x4 + (Int32.ofInt 1))), (5, .int (x2 * (z_abs ((f_X8_at ((Int32.ofInt 3) * x3) S) - (f_X8_at ((Int32.ofInt 3) * x4) S)))))]) (show ([4, 5, 0, 1, 2, 3] : List Nat).Nodup by decide) (show ([0, 1, 2, 3, 4, 5] : List Nat).Nodup by decide) (fun i => match i with | 0 => rfl | 1 => rfl | 2 => rfl | 3 => rfl | 4 => rfl | 5 => rfl | _ + 6 => rfl) ?_
          exact (ih m hm).2.2.2.2 d (x2 * (z_abs ((f_X8_at ((Int32.ofInt 3) * x3) S) - (f_X8_at ((Int32.ofInt 3) * x4) S)))) x1 x2 x3 (x4 + (Int32.ofInt 1)) S hD
        · have hD := hD.2 h2
          show u_P L xs m d m_X11_sightingsAgree 76 [(5, .int (x2 * (z_abs ((f_X8_at ((Int32.ofInt 3) * x3) S) - (f_X8_at ((Int32.ofInt 3) * x4) S))))), (0, .ref 1), (1, .int x1), (2, .int x2), (3, .int x3), (4, .int x4)] [] S R _
          refine u_st rfl (fun _ => rfl) ?_
          show u_P L xs m d m_X11_sightingsAgree 77 [(5, .int (x2 * (z_abs ((f_X8_at ((Int32.ofInt 3) * x3) S) - (f_X8_at ((Int32.ofInt 3) * x4) S))))), (0, .ref 1), (1, .int x1), (2, .int x2), (3, .int x3), (4, .int x4)] [.int (Int32.ofInt 0)] S R _
          exact u_retb rfl rfl ⟨_, rfl, rfl, hD⟩
    · intro d j5 x1 x2 x3 x4 S hD
      have hD := k10 x1 x2 x3 x4 S hD
      unfold D_X11_sightingsAgree_10 at hD
      show u_P L xs n d m_X11_sightingsAgree 10 [(0, .ref 1), (1, .int x1), (2, .int x2), (3, .int x3), (4, .int x4), (5, .int j5)] [] S R _
      refine u_st1 rfl (fun _ => rfl) (fun m hm => ?_)
      refine u_st rfl (fun _ => rfl) ?_
      show u_P L xs m d m_X11_sightingsAgree 13 [(0, .ref 1), (1, .int x1), (2, .int x2), (3, .int x3), (4, .int x4), (5, .int j5)] [.int x1, .int x4] S R _
      refine u_ic_ge rfl (fun h1 => ?_) (fun h1 => ?_)
      · have hD := hD.1 h1
        show u_P L xs m d m_X11_sightingsAgree 84 [(0, .ref 1), (1, .int x1), (2, .int x2), (3, .int x3), (4, .int x4), (5, .int j5)] [] S R _
        refine u_st rfl (fun _ => rfl) ?_
        refine u_st rfl (fun _ => rfl) ?_
        refine u_lc (b := [(0, .ref 1), (1, .int x1), (2, .int x2), (3, .int (x3 + (Int32.ofInt 1))), (4, .int x4), (5, .int j5)]) (show ([3, 0, 1, 2, 4, 5] : List Nat).Nodup by decide) (show ([0, 1, 2, 3, 4, 5] : List Nat).Nodup by decide) (fun i => match i with | 0 => rfl | 1 => rfl | 2 => rfl | 3 => rfl | 4 => rfl | 5 => rfl | _ + 6 => rfl) ?_
        exact (ih m hm).2.2.1 d x4 j5 x1 x2 (x3 + (Int32.ofInt 1)) S hD
      · have hD := hD.2 h1
        show u_P L xs m d m_X11_sightingsAgree 16 [(0, .ref 1), (1, .int x1), (2, .int x2), (3, .int x3), (4, .int x4), (5, .int j5)] [] S R _
        refine u_st rfl (fun _ => rfl) ?_
        refine u_st rfl (fun _ => rfl) ?_
        show u_P L xs m d m_X11_sightingsAgree 18 [(0, .ref 1), (1, .int x1), (2, .int x2), (3, .int x3), (4, .int x4), (5, .int j5)] [.ref 1, .int x2] S R _
        refine u_getr rfl v_tyC rfl ?_
        refine u_st rfl (fun _ => rfl) ?_
        refine u_st rfl (fun _ => rfl) ?_
        refine u_st rfl (fun _ => rfl) ?_
        show u_P L xs m d m_X11_sightingsAgree 24 [(0, .ref 1), (1, .int x1), (2, .int x2), (3, .int x3), (4, .int x4), (5, .int j5)] [.int ((Int32.ofInt 3) * x3), .ref 46, .int x2] S R _
        refine u_cv (rest := [.int x2]) rfl (by decide) mt_X8_at rfl rfl rfl rfl (Nat.le_of_ble_eq_true rfl) (Nat.le_of_ble_eq_true rfl) (Nat.le_of_ble_eq_true rfl) (fun d' => c_X8_at L xs m d' ((Int32.ofInt 3) * x3) S R) ?_
        rintro _ _ _ ⟨_, rfl, rfl, rfl, rfl⟩
        refine u_st rfl (fun _ => rfl) ?_
        show u_P L xs m d m_X11_sightingsAgree 28 [(0, .ref 1), (1, .int x1), (2, .int x2), (3, .int x3), (4, .int x4), (5, .int j5)] [.ref 1, .int (f_X8_at ((Int32.ofInt 3) * x3) S), .int x2] S R _
        refine u_getr rfl v_tyC rfl ?_
        refine u_st rfl (fun _ => rfl) ?_
        refine u_st rfl (fun _ => rfl) ?_
        refine u_st rfl (fun _ => rfl) ?_
        show u_P L xs m d m_X11_sightingsAgree 35 [(0, .ref 1), (1, .int x1), (2, .int x2), (3, .int x3), (4, .int x4), (5, .int j5)] [.int ((Int32.ofInt 3) * x4), .ref 46, .int (f_X8_at ((Int32.ofInt 3) * x3) S), .int x2] S R _
        refine u_cv (rest := [.int (f_X8_at ((Int32.ofInt 3) * x3) S), .int x2]) rfl (by decide) mt_X8_at rfl rfl rfl rfl (Nat.le_of_ble_eq_true rfl) (Nat.le_of_ble_eq_true rfl) (Nat.le_of_ble_eq_true rfl) (fun d' => c_X8_at L xs m d' ((Int32.ofInt 3) * x4) S R) ?_
        rintro _ _ _ ⟨_, rfl, rfl, rfl, rfl⟩
        refine u_st rfl (fun _ => rfl) ?_
        show u_P L xs m d m_X11_sightingsAgree 39 [(0, .ref 1), (1, .int x1), (2, .int x2), (3, .int x3), (4, .int x4), (5, .int j5)] [.int ((f_X8_at ((Int32.ofInt 3) * x3) S) - (f_X8_at ((Int32.ofInt 3) * x4) S)), .int x2] S R _
        refine u_abs rfl ?_
        refine u_st rfl (fun _ => rfl) ?_
        refine u_st rfl (fun _ => rfl) ?_
        refine u_st rfl (fun _ => rfl) ?_
        show u_P L xs m d m_X11_sightingsAgree 46 [(5, .int (x2 * (z_abs ((f_X8_at ((Int32.ofInt 3) * x3) S) - (f_X8_at ((Int32.ofInt 3) * x4) S))))), (0, .ref 1), (1, .int x1), (2, .int x2), (3, .int x3), (4, .int x4)] [.ref 1] S R _
        refine u_getr rfl v_tyC rfl ?_
        refine u_st rfl (fun _ => rfl) ?_
        refine u_st rfl (fun _ => rfl) ?_
        refine u_st rfl (fun _ => rfl) ?_
        refine u_st rfl (fun _ => rfl) ?_
        refine u_st rfl (fun _ => rfl) ?_
        show u_P L xs m d m_X11_sightingsAgree 54 [(5, .int (x2 * (z_abs ((f_X8_at ((Int32.ofInt 3) * x3) S) - (f_X8_at ((Int32.ofInt 3) * x4) S))))), (0, .ref 1), (1, .int x1), (2, .int x2), (3, .int x3), (4, .int x4)] [.int (((Int32.ofInt 3) * x3) + (Int32.ofInt 1)), .ref 46] S R _
        refine u_cv (rest := []) rfl (by decide) mt_X8_at rfl rfl rfl rfl (Nat.le_of_ble_eq_true rfl) (Nat.le_of_ble_eq_true rfl) (Nat.le_of_ble_eq_true rfl) (fun d' => c_X8_at L xs m d' (((Int32.ofInt 3) * x3) + (Int32.ofInt 1)) S R) ?_
        rintro _ _ _ ⟨_, rfl, rfl, rfl, rfl⟩
        refine u_st rfl (fun _ => rfl) ?_
        show u_P L xs m d m_X11_sightingsAgree 58 [(5, .int (x2 * (z_abs ((f_X8_at ((Int32.ofInt 3) * x3) S) - (f_X8_at ((Int32.ofInt 3) * x4) S))))), (0, .ref 1), (1, .int x1), (2, .int x2), (3, .int x3), (4, .int x4)] [.ref 1, .int (f_X8_at (((Int32.ofInt 3) * x3) + (Int32.ofInt 1)) S)] S R _
        refine u_getr rfl v_tyC rfl ?_
        refine u_st rfl (fun _ => rfl) ?_
        refine u_st rfl (fun _ => rfl) ?_
        refine u_st rfl (fun _ => rfl) ?_
        refine u_st rfl (fun _ => rfl) ?_
        refine u_st rfl (fun _ => rfl) ?_
        show u_P L xs m d m_X11_sightingsAgree 67 [(5, .int (x2 * (z_abs ((f_X8_at ((Int32.ofInt 3) * x3) S) - (f_X8_at ((Int32.ofInt 3) * x4) S))))), (0, .ref 1), (1, .int x1), (2, .int x2), (3, .int x3), (4, .int x4)] [.int (((Int32.ofInt 3) * x4) + (Int32.ofInt 2)), .ref 46, .int (f_X8_at (((Int32.ofInt 3) * x3) + (Int32.ofInt 1)) S)] S R _
        refine u_cv (rest := [.int (f_X8_at (((Int32.ofInt 3) * x3) + (Int32.ofInt 1)) S)]) rfl (by decide) mt_X8_at rfl rfl rfl rfl (Nat.le_of_ble_eq_true rfl) (Nat.le_of_ble_eq_true rfl) (Nat.le_of_ble_eq_true rfl) (fun d' => c_X8_at L xs m d' (((Int32.ofInt 3) * x4) + (Int32.ofInt 2)) S R) ?_
        rintro _ _ _ ⟨_, rfl, rfl, rfl, rfl⟩
        refine u_st rfl (fun _ => rfl) ?_
        refine u_st rfl (fun _ => rfl) ?_
        show u_P L xs m d m_X11_sightingsAgree 73 [(5, .int (x2 * (z_abs ((f_X8_at ((Int32.ofInt 3) * x3) S) - (f_X8_at ((Int32.ofInt 3) * x4) S))))), (0, .ref 1), (1, .int x1), (2, .int x2), (3, .int x3), (4, .int x4)] [.int (x2 * (z_abs ((f_X8_at ((Int32.ofInt 3) * x3) S) - (f_X8_at ((Int32.ofInt 3) * x4) S)))), .int ((f_X8_at (((Int32.ofInt 3) * x3) + (Int32.ofInt 1)) S) - (f_X8_at (((Int32.ofInt 3) * x4) + (Int32.ofInt 2)) S))] S R _
        refine u_ic_le rfl (fun h2 => ?_) (fun h2 => ?_)
        · have hD := hD.1 h2
          show u_P L xs m d m_X11_sightingsAgree 78 [(5, .int (x2 * (z_abs ((f_X8_at ((Int32.ofInt 3) * x3) S) - (f_X8_at ((Int32.ofInt 3) * x4) S))))), (0, .ref 1), (1, .int x1), (2, .int x2), (3, .int x3), (4, .int x4)] [] S R _
          refine u_st rfl (fun _ => rfl) ?_
          refine u_st rfl (fun _ => rfl) ?_
          refine u_lc (b := [(0, .ref 1), (1, .int x1), (2, .int x2), (3, .int x3), (4, .int (x4 + (Int32.ofInt 1))), (5, .int (x2 * (z_abs ((f_X8_at ((Int32.ofInt 3) * x3) S) - (f_X8_at ((Int32.ofInt 3) * x4) S)))))]) (show ([4, 5, 0, 1, 2, 3] : List Nat).Nodup by decide) (show ([0, 1, 2, 3, 4, 5] : List Nat).Nodup by decide) (fun i => match i with | 0 => rfl | 1 => rfl | 2 => rfl | 3 => rfl | 4 => rfl | 5 => rfl | _ + 6 => rfl) ?_
          exact (ih m hm).2.2.2.2 d (x2 * (z_abs ((f_X8_at ((Int32.ofInt 3) * x3) S) - (f_X8_at ((Int32.ofInt 3) * x4) S)))) x1 x2 x3 (x4 + (Int32.ofInt 1)) S hD
        · have hD := hD.2 h2
          show u_P L xs m d m_X11_sightingsAgree 76 [(5, .int (x2 * (z_abs ((f_X8_at ((Int32.ofInt 3) * x3) S) - (f_X8_at ((Int32.ofInt 3) * x4) S))))), (0, .ref 1), (1, .int x1), (2, .int x2), (3, .int x3), (4, .int x4)] [] S R _
          refine u_st rfl (fun _ => rfl) ?_
          show u_P L xs m d m_X11_sightingsAgree 77 [(5, .int (x2 * (z_abs ((f_X8_at ((Int32.ofInt 3) * x3) S) - (f_X8_at ((Int32.ofInt 3) * x4) S))))), (0, .ref 1), (1, .int x1), (2, .int x2), (3, .int x3), (4, .int x4)] [.int (Int32.ofInt 0)] S R _
          exact u_retb rfl rfl ⟨_, rfl, rfl, hD⟩
set_option maxRecDepth 4000 in
theorem w_X11_sightingsAgree (L : Nat) (xs : Nat → Int32) {R : v_Rf} (a : Int32) (b : Int32) (H2 : Int32 → Int32 → Int32 → v_Sf → Prop) (H10 : Int32 → Int32 → Int32 → Int32 → v_Sf → Prop) (K : Int32 → v_Sf → Prop) (k2 : ∀ (x1 : Int32) (x2 : Int32) (x3 : Int32) (S : v_Sf), H2 x1 x2 x3 S → D_X11_sightingsAgree_2 H2 H10 K x1 x2 x3 S) (k10 : ∀ (x1 : Int32) (x2 : Int32) (x3 : Int32) (x4 : Int32) (S : v_Sf), H10 x1 x2 x3 x4 S → D_X11_sightingsAgree_10 H2 H10 K x1 x2 x3 x4 S) (n d : Nat) (S : v_Sf) (hD : D_X11_sightingsAgree a b H2 H10 K S) : u_P L xs n d m_X11_sightingsAgree 0 (lv_args 0 [.ref 1, .int a, .int b]) [] S R (z_Q R K) := by
  unfold D_X11_sightingsAgree at hD
  show u_P L xs n d m_X11_sightingsAgree 0 [(0, .ref 1), (1, .int a), (2, .int b)] [] S R _
  refine u_st rfl (fun _ => rfl) ?_
  refine u_st rfl (fun _ => rfl) ?_
  refine u_lc (b := [(0, .ref 1), (1, .int a), (2, .int b), (3, .int (Int32.ofInt 0))]) (show ([3, 0, 1, 2] : List Nat).Nodup by decide) (show ([0, 1, 2, 3] : List Nat).Nodup by decide) (fun i => match i with | 0 => rfl | 1 => rfl | 2 => rfl | 3 => rfl | _ + 4 => rfl) ?_
  exact (hd_X11_sightingsAgree L xs a b H2 H10 K k2 k10 n).1 d a b (Int32.ofInt 0) S hD
noncomputable def r_X11_sightingsAgree_10 (x1 : Int32) (x2 : Int32) (S : v_Sf) (κ2 : Int32) (k2 : Nat) : Nat → Nat → Int32
  | 0, k10 => κ2
  | r + 1, k10 => (if ((f_X8_at (((Int32.ofInt 3) * (z_i k2)) + (Int32.ofInt 1)) S) - (f_X8_at (((Int32.ofInt 3) * (z_i k10)) + (Int32.ofInt 2)) S)) ≤ (x2 * (z_abs ((f_X8_at ((Int32.ofInt 3) * (z_i k2)) S) - (f_X8_at ((Int32.ofInt 3) * (z_i k10)) S)))) then r_X11_sightingsAgree_10 x1 x2 S κ2 k2 r (k10 + 1) else Int32.ofInt 0)
noncomputable def r_X11_sightingsAgree_2 (x1 : Int32) (x2 : Int32) (S : v_Sf) : Nat → Nat → Int32
  | 0, k2 => Int32.ofInt 1
  | r + 1, k2 => r_X11_sightingsAgree_10 x1 x2 S (r_X11_sightingsAgree_2 x1 x2 S r (k2 + 1)) k2 (x1.toInt.toNat - 0) 0
noncomputable def F_X11_sightingsAgree (a : Int32) (b : Int32) (S : v_Sf) : Int32 := r_X11_sightingsAgree_2 a b S (a.toInt.toNat - 0) 0
noncomputable def f_X11_sightingsAgree (a : Int32) (b : Int32) (S : v_Sf) : Int32 := F_X11_sightingsAgree a b S
theorem c_X11_sightingsAgree (L : Nat) (xs : Nat → Int32) (n d : Nat) (a : Int32) (b : Int32) (S : v_Sf) (R : v_Rf) : u_P L xs n d m_X11_sightingsAgree 0 (lv_args 0 [.ref 1, .int a, .int b]) [] S R (z_Q R (fun v S1 => f_X11_sightingsAgree a b S = v ∧ S = S1)) := by
  refine w_X11_sightingsAgree L xs a b (fun y1 y2 y3 T => ∃ (k2 : Nat), k2 ≤ a.toInt.toNat ∧ z_i k2 = y3 ∧ a = y1 ∧ b = y2 ∧ S = T ∧ r_X11_sightingsAgree_2 a b S (a.toInt.toNat - k2) k2 = F_X11_sightingsAgree a b S) (fun y1 y2 y3 y4 T => ∃ (k2 k10 : Nat), k10 ≤ a.toInt.toNat ∧ z_i k10 = y4 ∧ k2 < a.toInt.toNat ∧ z_i k2 = y3 ∧ a = y1 ∧ b = y2 ∧ S = T ∧ r_X11_sightingsAgree_10 a b S (r_X11_sightingsAgree_2 a b S (a.toInt.toNat - (k2 + 1)) (k2 + 1)) k2 (a.toInt.toNat - k10) k10 = F_X11_sightingsAgree a b S) (fun v S1 => f_X11_sightingsAgree a b S = v ∧ S = S1) ?_ ?_ n d S ?_
  · rintro _ _ _ _ ⟨k2, hkk, rfl, rfl, rfl, rfl, e⟩
    unfold D_X11_sightingsAgree_2
    rcases Nat.lt_or_ge k2 (a.toInt.toNat) with hk | hk
    · rw [show a.toInt.toNat - k2 = (a.toInt.toNat - (k2 + 1)) + 1 by omega, r_X11_sightingsAgree_2] at e
      refine ⟨fun q1 => ?_, fun q1 => ?_⟩
      · exact absurd hk (Nat.not_lt.mpr (z_leV q1 (by omega)))
      · exact ⟨k2, 0, by omega, rfl, by omega, rfl, rfl, rfl, rfl, e⟩
    · rw [show a.toInt.toNat - k2 = 0 by omega, r_X11_sightingsAgree_2] at e
      refine ⟨fun q2 => ?_, fun q2 => ?_⟩
      · exact ⟨e.symm, rfl⟩
      · exact absurd hk (Nat.not_le.mpr (z_ltV q2 (by omega)))
  · rintro _ _ _ _ _ ⟨k2, k10, hkk, rfl, hk2, rfl, rfl, rfl, rfl, e⟩
    unfold D_X11_sightingsAgree_10
    rcases Nat.lt_or_ge k10 (a.toInt.toNat) with hk | hk
    · rw [show a.toInt.toNat - k10 = (a.toInt.toNat - (k10 + 1)) + 1 by omega, r_X11_sightingsAgree_10] at e
      refine ⟨fun q3 => ?_, fun q3 => ?_⟩
      · exact absurd hk (Nat.not_lt.mpr (z_leV q3 (by omega)))
      · refine ⟨fun q4 => ?_, fun q4 => ?_⟩
        · rw [if_pos q4] at e
          exact ⟨k2, (k10 + 1), by omega, (z_i1 k10).symm, by omega, rfl, rfl, rfl, rfl, e⟩
        · rw [if_neg q4] at e
          exact ⟨e.symm, rfl⟩
    · rw [show a.toInt.toNat - k10 = 0 by omega, r_X11_sightingsAgree_10] at e
      refine ⟨fun q5 => ?_, fun q5 => ?_⟩
      · exact ⟨(k2 + 1), by omega, (z_i1 k2).symm, rfl, rfl, rfl, e⟩
      · exact absurd hk (Nat.not_le.mpr (z_ltV q5 (by omega)))
  · unfold D_X11_sightingsAgree
    have e : r_X11_sightingsAgree_2 a b S (a.toInt.toNat - 0) 0 = F_X11_sightingsAgree a b S := by rw [F_X11_sightingsAgree]
    exact ⟨0, by omega, rfl, rfl, rfl, rfl, e⟩
noncomputable abbrev m_X11_sought : g_M := (g_cn 11, yX11_sought, cX11_sought, 9, (some .int), g_look2 ttX11_sought)
set_option maxRecDepth 20000 in
theorem mt_X11_sought : g_mt 156 = some m_X11_sought := rfl
noncomputable def D_X11_sought_34  (H34 : Int32 → Int32 → Int32 → Int32 → Int32 → Int32 → Int32 → v_Sf → Prop) (K : Int32 → v_Sf → Prop) (x1 : Int32) (x2 : Int32) (x3 : Int32) (x4 : Int32) (x5 : Int32) (x6 : Int32) (x7 : Int32) (S : v_Sf) : Prop := ((x1 ≤ x7 → (((Int32.ofInt 2) ≤ x4 → (¬ x4 = 0 → K (((x6 - x5) + x4) / x4) S)) ∧ (¬ ((Int32.ofInt 2) ≤ x4) → (((¬ x4 = 0) → K x6 S) ∧ (¬ (¬ x4 = 0) → K x5 S))))) ∧ (¬ (x1 ≤ x7) → H34 x1 x2 x3 x4 (z_max x5 ((f_X8_at (((Int32.ofInt 3) * x7) + (Int32.ofInt 1)) S) - (x2 * (z_abs (x3 - (f_X8_at ((Int32.ofInt 3) * x7) S)))))) (z_min x6 ((f_X8_at (((Int32.ofInt 3) * x7) + (Int32.ofInt 2)) S) + (x2 * (z_abs (x3 - (f_X8_at ((Int32.ofInt 3) * x7) S)))))) (x7 + (Int32.ofInt 1)) S))
noncomputable def D_X11_sought (a : Int32) (b : Int32) (i : Int32) (j : Int32) (H34 : Int32 → Int32 → Int32 → Int32 → Int32 → Int32 → Int32 → v_Sf → Prop) (K : Int32 → v_Sf → Prop) (S : v_Sf) : Prop := (((¬ (f_X11_sightingsStand a S) = 0) → (((¬ (f_X11_sightingsAgree a b S) = 0) → H34 a b i j (Int32.ofInt 0) (Int32.ofInt 250) (Int32.ofInt 0) S) ∧ (¬ (¬ (f_X11_sightingsAgree a b S) = 0) → K (Int32.ofInt (-2)) S))) ∧ (¬ (¬ (f_X11_sightingsStand a S) = 0) → K (Int32.ofInt (-3)) S))
set_option maxRecDepth 4000 in
theorem hd_X11_sought (L : Nat) (xs : Nat → Int32) {R : v_Rf} (a : Int32) (b : Int32) (i : Int32) (j : Int32) (H34 : Int32 → Int32 → Int32 → Int32 → Int32 → Int32 → Int32 → v_Sf → Prop) (K : Int32 → v_Sf → Prop) (k34 : ∀ (x1 : Int32) (x2 : Int32) (x3 : Int32) (x4 : Int32) (x5 : Int32) (x6 : Int32) (x7 : Int32) (S : v_Sf), H34 x1 x2 x3 x4 x5 x6 x7 S → D_X11_sought_34 H34 K x1 x2 x3 x4 x5 x6 x7 S) : ∀ n, (∀ (d : Nat) (x1 : Int32) (x2 : Int32) (x3 : Int32) (x4 : Int32) (x5 : Int32) (x6 : Int32) (x7 : Int32) (S : v_Sf), H34 x1 x2 x3 x4 x5 x6 x7 S → u_P L xs n d m_X11_sought 34 [(0, .ref 1), (1, .int x1), (2, .int x2), (3, .int x3), (4, .int x4), (5, .int x5), (6, .int x6), (7, .int x7)] [] S R (z_Q R K)) ∧ (∀ (d : Nat) (j8 : Int32) (x1 : Int32) (x2 : Int32) (x3 : Int32) (x4 : Int32) (x5 : Int32) (x6 : Int32) (x7 : Int32) (S : v_Sf), H34 x1 x2 x3 x4 x5 x6 x7 S → u_P L xs n d m_X11_sought 34 [(0, .ref 1), (1, .int x1), (2, .int x2), (3, .int x3), (4, .int x4), (5, .int x5), (6, .int x6), (7, .int x7), (8, .int j8)] [] S R (z_Q R K)) := by
  intro n
  induction n using Nat.strongRecOn with
  | ind n ih =>
    refine ⟨?_, ?_⟩
    · intro d x1 x2 x3 x4 x5 x6 x7 S hD
      have hD := k34 x1 x2 x3 x4 x5 x6 x7 S hD
      unfold D_X11_sought_34 at hD
      show u_P L xs n d m_X11_sought 34 [(0, .ref 1), (1, .int x1), (2, .int x2), (3, .int x3), (4, .int x4), (5, .int x5), (6, .int x6), (7, .int x7)] [] S R _
      refine u_st1 rfl (fun _ => rfl) (fun m hm => ?_)
      refine u_st rfl (fun _ => rfl) ?_
      show u_P L xs m d m_X11_sought 37 [(0, .ref 1), (1, .int x1), (2, .int x2), (3, .int x3), (4, .int x4), (5, .int x5), (6, .int x6), (7, .int x7)] [.int x1, .int x7] S R _
      refine u_ic_ge rfl (fun h1 => ?_) (fun h1 => ?_)
      · have hD := hD.1 h1
        show u_P L xs m d m_X11_sought 112 [(0, .ref 1), (1, .int x1), (2, .int x2), (3, .int x3), (4, .int x4), (5, .int x5), (6, .int x6), (7, .int x7)] [] S R _
        refine u_st rfl (fun _ => rfl) ?_
        refine u_st rfl (fun _ => rfl) ?_
        show u_P L xs m d m_X11_sought 115 [(0, .ref 1), (1, .int x1), (2, .int x2), (3, .int x3), (4, .int x4), (5, .int x5), (6, .int x6), (7, .int x7)] [.int (Int32.ofInt 2), .int x4] S R _
        refine u_ic_ge rfl (fun h2 => ?_) (fun h2 => ?_)
        · have hD := hD.1 h2
          show u_P L xs m d m_X11_sought 131 [(0, .ref 1), (1, .int x1), (2, .int x2), (3, .int x3), (4, .int x4), (5, .int x5), (6, .int x6), (7, .int x7)] [] S R _
          refine u_st rfl (fun _ => rfl) ?_
          refine u_st rfl (fun _ => rfl) ?_
          refine u_st rfl (fun _ => rfl) ?_
          refine u_st rfl (fun _ => rfl) ?_
          refine u_st rfl (fun _ => rfl) ?_
          refine u_st rfl (fun _ => rfl) ?_
          show u_P L xs m d m_X11_sought 141 [(0, .ref 1), (1, .int x1), (2, .int x2), (3, .int x3), (4, .int x4), (5, .int x5), (6, .int x6), (7, .int x7)] [.int x4, .int ((x6 - x5) + x4)] S R _
          refine u_idiv rfl (fun b3 => ?_)
          have hD := hD b3
          show u_P L xs m d m_X11_sought 142 [(0, .ref 1), (1, .int x1), (2, .int x2), (3, .int x3), (4, .int x4), (5, .int x5), (6, .int x6), (7, .int x7)] [.int (((x6 - x5) + x4) / x4)] S R _
          exact u_ret rfl rfl ⟨_, rfl, rfl, hD⟩
        · have hD := hD.2 h2
          show u_P L xs m d m_X11_sought 118 [(0, .ref 1), (1, .int x1), (2, .int x2), (3, .int x3), (4, .int x4), (5, .int x5), (6, .int x6), (7, .int x7)] [] S R _
          refine u_st rfl (fun _ => rfl) ?_
          show u_P L xs m d m_X11_sought 120 [(0, .ref 1), (1, .int x1), (2, .int x2), (3, .int x3), (4, .int x4), (5, .int x5), (6, .int x6), (7, .int x7)] [.int x4] S R _
          refine u_if_ne rfl (fun h4 => ?_) (fun h4 => ?_)
          · have hD := hD.1 h4
            show u_P L xs m d m_X11_sought 128 [(0, .ref 1), (1, .int x1), (2, .int x2), (3, .int x3), (4, .int x4), (5, .int x5), (6, .int x6), (7, .int x7)] [] S R _
            refine u_st rfl (fun _ => rfl) ?_
            show u_P L xs m d m_X11_sought 130 [(0, .ref 1), (1, .int x1), (2, .int x2), (3, .int x3), (4, .int x4), (5, .int x5), (6, .int x6), (7, .int x7)] [.int x6] S R _
            exact u_ret rfl rfl ⟨_, rfl, rfl, hD⟩
          · have hD := hD.2 h4
            show u_P L xs m d m_X11_sought 123 [(0, .ref 1), (1, .int x1), (2, .int x2), (3, .int x3), (4, .int x4), (5, .int x5), (6, .int x6), (7, .int x7)] [] S R _
            refine u_st rfl (fun _ => rfl) ?_
            refine u_st rfl (fun _ => rfl) ?_
            show u_P L xs m d m_X11_sought 130 [(0, .ref 1), (1, .int x1), (2, .int x2), (3, .int x3), (4, .int x4), (5, .int x5), (6, .int x6), (7, .int x7)] [.int x5] S R _
            exact u_ret rfl rfl ⟨_, rfl, rfl, hD⟩
      · have hD := hD.2 h1
        show u_P L xs m d m_X11_sought 40 [(0, .ref 1), (1, .int x1), (2, .int x2), (3, .int x3), (4, .int x4), (5, .int x5), (6, .int x6), (7, .int x7)] [] S R _
        refine u_st rfl (fun _ => rfl) ?_
        refine u_st rfl (fun _ => rfl) ?_
        refine u_st rfl (fun _ => rfl) ?_
        show u_P L xs m d m_X11_sought 43 [(0, .ref 1), (1, .int x1), (2, .int x2), (3, .int x3), (4, .int x4), (5, .int x5), (6, .int x6), (7, .int x7)] [.ref 1, .int x3, .int x2] S R _
        refine u_getr rfl v_tyC rfl ?_
        refine u_st rfl (fun _ => rfl) ?_
        refine u_st rfl (fun _ => rfl) ?_
        refine u_st rfl (fun _ => rfl) ?_
        show u_P L xs m d m_X11_sought 50 [(0, .ref 1), (1, .int x1), (2, .int x2), (3, .int x3), (4, .int x4), (5, .int x5), (6, .int x6), (7, .int x7)] [.int ((Int32.ofInt 3) * x7), .ref 46, .int x3, .int x2] S R _
        refine u_cv (rest := [.int x3, .int x2]) rfl (by decide) mt_X8_at rfl rfl rfl rfl (Nat.le_of_ble_eq_true rfl) (Nat.le_of_ble_eq_true rfl) (Nat.le_of_ble_eq_true rfl) (fun d' => c_X8_at L xs m d' ((Int32.ofInt 3) * x7) S R) ?_
        rintro _ _ _ ⟨_, rfl, rfl, rfl, rfl⟩
        refine u_st rfl (fun _ => rfl) ?_
        show u_P L xs m d m_X11_sought 54 [(0, .ref 1), (1, .int x1), (2, .int x2), (3, .int x3), (4, .int x4), (5, .int x5), (6, .int x6), (7, .int x7)] [.int (x3 - (f_X8_at ((Int32.ofInt 3) * x7) S)), .int x2] S R _
        refine u_abs rfl ?_
        refine u_st rfl (fun _ => rfl) ?_
        refine u_st rfl (fun _ => rfl) ?_
        refine u_st rfl (fun _ => rfl) ?_
        refine u_st rfl (fun _ => rfl) ?_
        show u_P L xs m d m_X11_sought 63 [(8, .int (x2 * (z_abs (x3 - (f_X8_at ((Int32.ofInt 3) * x7) S))))), (0, .ref 1), (1, .int x1), (2, .int x2), (3, .int x3), (4, .int x4), (5, .int x5), (6, .int x6), (7, .int x7)] [.ref 1, .int x5] S R _
        refine u_getr rfl v_tyC rfl ?_
        refine u_st rfl (fun _ => rfl) ?_
        refine u_st rfl (fun _ => rfl) ?_
        refine u_st rfl (fun _ => rfl) ?_
        refine u_st rfl (fun _ => rfl) ?_
        refine u_st rfl (fun _ => rfl) ?_
        show u_P L xs m d m_X11_sought 72 [(8, .int (x2 * (z_abs (x3 - (f_X8_at ((Int32.ofInt 3) * x7) S))))), (0, .ref 1), (1, .int x1), (2, .int x2), (3, .int x3), (4, .int x4), (5, .int x5), (6, .int x6), (7, .int x7)] [.int (((Int32.ofInt 3) * x7) + (Int32.ofInt 1)), .ref 46, .int x5] S R _
        refine u_cv (rest := [.int x5]) rfl (by decide) mt_X8_at rfl rfl rfl rfl (Nat.le_of_ble_eq_true rfl) (Nat.le_of_ble_eq_true rfl) (Nat.le_of_ble_eq_true rfl) (fun d' => c_X8_at L xs m d' (((Int32.ofInt 3) * x7) + (Int32.ofInt 1)) S R) ?_
        rintro _ _ _ ⟨_, rfl, rfl, rfl, rfl⟩
        refine u_st rfl (fun _ => rfl) ?_
        refine u_st rfl (fun _ => rfl) ?_
        show u_P L xs m d m_X11_sought 78 [(8, .int (x2 * (z_abs (x3 - (f_X8_at ((Int32.ofInt 3) * x7) S))))), (0, .ref 1), (1, .int x1), (2, .int x2), (3, .int x3), (4, .int x4), (5, .int x5), (6, .int x6), (7, .int x7)] [.int ((f_X8_at (((Int32.ofInt 3) * x7) + (Int32.ofInt 1)) S) - (x2 * (z_abs (x3 - (f_X8_at ((Int32.ofInt 3) * x7) S))))), .int x5] S R _
        refine u_max rfl ?_
        refine u_st rfl (fun _ => rfl) ?_
        refine u_st rfl (fun _ => rfl) ?_
        refine u_st rfl (fun _ => rfl) ?_
        show u_P L xs m d m_X11_sought 86 [(5, .int (z_max x5 ((f_X8_at (((Int32.ofInt 3) * x7) + (Int32.ofInt 1)) S) - (x2 * (z_abs (x3 - (f_X8_at ((Int32.ofInt 3) * x7) S))))))), (8, .int (x2 * (z_abs (x3 - (f_X8_at ((Int32.ofInt 3) * x7) S))))), (0, .ref 1), (1, .int x1), (2, .int x2), (3, .int x3), (4, .int x4), (6, .int x6), (7, .int x7)] [.ref 1, .int x6] S R _
        refine u_getr rfl v_tyC rfl ?_
        refine u_st rfl (fun _ => rfl) ?_
        refine u_st rfl (fun _ => rfl) ?_
        refine u_st rfl (fun _ => rfl) ?_
        refine u_st rfl (fun _ => rfl) ?_
        refine u_st rfl (fun _ => rfl) ?_
        show u_P L xs m d m_X11_sought 95 [(5, .int (z_max x5 ((f_X8_at (((Int32.ofInt 3) * x7) + (Int32.ofInt 1)) S) - (x2 * (z_abs (x3 - (f_X8_at ((Int32.ofInt 3) * x7) S))))))), (8, .int (x2 * (z_abs (x3 - (f_X8_at ((Int32.ofInt 3) * x7) S))))), (0, .ref 1), (1, .int x1), (2, .int x2), (3, .int x3), (4, .int x4), (6, .int x6), (7, .int x7)] [.int (((Int32.ofInt 3) * x7) + (Int32.ofInt 2)), .ref 46, .int x6] S R _
        refine u_cv (rest := [.int x6]) rfl (by decide) mt_X8_at rfl rfl rfl rfl (Nat.le_of_ble_eq_true rfl) (Nat.le_of_ble_eq_true rfl) (Nat.le_of_ble_eq_true rfl) (fun d' => c_X8_at L xs m d' (((Int32.ofInt 3) * x7) + (Int32.ofInt 2)) S R) ?_
        rintro _ _ _ ⟨_, rfl, rfl, rfl, rfl⟩
        refine u_st rfl (fun _ => rfl) ?_
        refine u_st rfl (fun _ => rfl) ?_
        show u_P L xs m d m_X11_sought 101 [(5, .int (z_max x5 ((f_X8_at (((Int32.ofInt 3) * x7) + (Int32.ofInt 1)) S) - (x2 * (z_abs (x3 - (f_X8_at ((Int32.ofInt 3) * x7) S))))))), (8, .int (x2 * (z_abs (x3 - (f_X8_at ((Int32.ofInt 3) * x7) S))))), (0, .ref 1), (1, .int x1), (2, .int x2), (3, .int x3), (4, .int x4), (6, .int x6), (7, .int x7)] [.int ((f_X8_at (((Int32.ofInt 3) * x7) + (Int32.ofInt 2)) S) + (x2 * (z_abs (x3 - (f_X8_at ((Int32.ofInt 3) * x7) S))))), .int x6] S R _
        refine u_min rfl ?_
        refine u_st rfl (fun _ => rfl) ?_
        refine u_st rfl (fun _ => rfl) ?_
        refine u_st rfl (fun _ => rfl) ?_
        refine u_lc (b := [(0, .ref 1), (1, .int x1), (2, .int x2), (3, .int x3), (4, .int x4), (5, .int (z_max x5 ((f_X8_at (((Int32.ofInt 3) * x7) + (Int32.ofInt 1)) S) - (x2 * (z_abs (x3 - (f_X8_at ((Int32.ofInt 3) * x7) S))))))), (6, .int (z_min x6 ((f_X8_at (((Int32.ofInt 3) * x7) + (Int32.ofInt 2)) S) + (x2 * (z_abs (x3 - (f_X8_at ((Int32.ofInt 3) * x7) S))))))), (7, .int (x7 + (Int32.ofInt 1))), (8, .int (x2 * (z_abs (x3 - (f_X8_at ((Int32.ofInt 3) * x7) S)))))]) (show ([7, 6, 5, 8, 0, 1, 2, 3, 4] : List Nat).Nodup by decide) (show ([0, 1, 2, 3, 4, 5, 6, 7, 8] : List Nat).Nodup by decide) (fun i => match i with | 0 => rfl | 1 => rfl | 2 => rfl | 3 => rfl | 4 => rfl | 5 => rfl | 6 => rfl | 7 => rfl | 8 => rfl | _ + 9 => rfl) ?_
        exact (ih m hm).2 d (x2 * (z_abs (x3 - (f_X8_at ((Int32.ofInt 3) * x7) S)))) x1 x2 x3 x4 (z_max x5 ((f_X8_at (((Int32.ofInt 3) * x7) + (Int32.ofInt 1)) S) - (x2 * (z_abs (x3 - (f_X8_at ((Int32.ofInt 3) * x7) S)))))) (z_min x6 ((f_X8_at (((Int32.ofInt 3) * x7) + (Int32.ofInt 2)) S) + (x2 * (z_abs (x3 - (f_X8_at ((Int32.ofInt 3) * x7) S)))))) (x7 + (Int32.ofInt 1)) S hD
    · intro d j8 x1 x2 x3 x4 x5 x6 x7 S hD
      have hD := k34 x1 x2 x3 x4 x5 x6 x7 S hD
      unfold D_X11_sought_34 at hD
      show u_P L xs n d m_X11_sought 34 [(0, .ref 1), (1, .int x1), (2, .int x2), (3, .int x3), (4, .int x4), (5, .int x5), (6, .int x6), (7, .int x7), (8, .int j8)] [] S R _
      refine u_st1 rfl (fun _ => rfl) (fun m hm => ?_)
      refine u_st rfl (fun _ => rfl) ?_
      show u_P L xs m d m_X11_sought 37 [(0, .ref 1), (1, .int x1), (2, .int x2), (3, .int x3), (4, .int x4), (5, .int x5), (6, .int x6), (7, .int x7), (8, .int j8)] [.int x1, .int x7] S R _
      refine u_ic_ge rfl (fun h1 => ?_) (fun h1 => ?_)
      · have hD := hD.1 h1
        show u_P L xs m d m_X11_sought 112 [(0, .ref 1), (1, .int x1), (2, .int x2), (3, .int x3), (4, .int x4), (5, .int x5), (6, .int x6), (7, .int x7), (8, .int j8)] [] S R _
        refine u_st rfl (fun _ => rfl) ?_
        refine u_st rfl (fun _ => rfl) ?_
        show u_P L xs m d m_X11_sought 115 [(0, .ref 1), (1, .int x1), (2, .int x2), (3, .int x3), (4, .int x4), (5, .int x5), (6, .int x6), (7, .int x7), (8, .int j8)] [.int (Int32.ofInt 2), .int x4] S R _
        refine u_ic_ge rfl (fun h2 => ?_) (fun h2 => ?_)
        · have hD := hD.1 h2
          show u_P L xs m d m_X11_sought 131 [(0, .ref 1), (1, .int x1), (2, .int x2), (3, .int x3), (4, .int x4), (5, .int x5), (6, .int x6), (7, .int x7), (8, .int j8)] [] S R _
          refine u_st rfl (fun _ => rfl) ?_
          refine u_st rfl (fun _ => rfl) ?_
          refine u_st rfl (fun _ => rfl) ?_
          refine u_st rfl (fun _ => rfl) ?_
          refine u_st rfl (fun _ => rfl) ?_
          refine u_st rfl (fun _ => rfl) ?_
          show u_P L xs m d m_X11_sought 141 [(0, .ref 1), (1, .int x1), (2, .int x2), (3, .int x3), (4, .int x4), (5, .int x5), (6, .int x6), (7, .int x7), (8, .int j8)] [.int x4, .int ((x6 - x5) + x4)] S R _
          refine u_idiv rfl (fun b3 => ?_)
          have hD := hD b3
          show u_P L xs m d m_X11_sought 142 [(0, .ref 1), (1, .int x1), (2, .int x2), (3, .int x3), (4, .int x4), (5, .int x5), (6, .int x6), (7, .int x7), (8, .int j8)] [.int (((x6 - x5) + x4) / x4)] S R _
          exact u_ret rfl rfl ⟨_, rfl, rfl, hD⟩
        · have hD := hD.2 h2
          show u_P L xs m d m_X11_sought 118 [(0, .ref 1), (1, .int x1), (2, .int x2), (3, .int x3), (4, .int x4), (5, .int x5), (6, .int x6), (7, .int x7), (8, .int j8)] [] S R _
          refine u_st rfl (fun _ => rfl) ?_
          show u_P L xs m d m_X11_sought 120 [(0, .ref 1), (1, .int x1), (2, .int x2), (3, .int x3), (4, .int x4), (5, .int x5), (6, .int x6), (7, .int x7), (8, .int j8)] [.int x4] S R _
          refine u_if_ne rfl (fun h4 => ?_) (fun h4 => ?_)
          · have hD := hD.1 h4
            show u_P L xs m d m_X11_sought 128 [(0, .ref 1), (1, .int x1), (2, .int x2), (3, .int x3), (4, .int x4), (5, .int x5), (6, .int x6), (7, .int x7), (8, .int j8)] [] S R _
            refine u_st rfl (fun _ => rfl) ?_
            show u_P L xs m d m_X11_sought 130 [(0, .ref 1), (1, .int x1), (2, .int x2), (3, .int x3), (4, .int x4), (5, .int x5), (6, .int x6), (7, .int x7), (8, .int j8)] [.int x6] S R _
            exact u_ret rfl rfl ⟨_, rfl, rfl, hD⟩
          · have hD := hD.2 h4
            show u_P L xs m d m_X11_sought 123 [(0, .ref 1), (1, .int x1), (2, .int x2), (3, .int x3), (4, .int x4), (5, .int x5), (6, .int x6), (7, .int x7), (8, .int j8)] [] S R _
            refine u_st rfl (fun _ => rfl) ?_
            refine u_st rfl (fun _ => rfl) ?_
            show u_P L xs m d m_X11_sought 130 [(0, .ref 1), (1, .int x1), (2, .int x2), (3, .int x3), (4, .int x4), (5, .int x5), (6, .int x6), (7, .int x7), (8, .int j8)] [.int x5] S R _
            exact u_ret rfl rfl ⟨_, rfl, rfl, hD⟩
      · have hD := hD.2 h1
        show u_P L xs m d m_X11_sought 40 [(0, .ref 1), (1, .int x1), (2, .int x2), (3, .int x3), (4, .int x4), (5, .int x5), (6, .int x6), (7, .int x7), (8, .int j8)] [] S R _
        refine u_st rfl (fun _ => rfl) ?_
        refine u_st rfl (fun _ => rfl) ?_
        refine u_st rfl (fun _ => rfl) ?_
        show u_P L xs m d m_X11_sought 43 [(0, .ref 1), (1, .int x1), (2, .int x2), (3, .int x3), (4, .int x4), (5, .int x5), (6, .int x6), (7, .int x7), (8, .int j8)] [.ref 1, .int x3, .int x2] S R _
        refine u_getr rfl v_tyC rfl ?_
        refine u_st rfl (fun _ => rfl) ?_
        refine u_st rfl (fun _ => rfl) ?_
        refine u_st rfl (fun _ => rfl) ?_
        show u_P L xs m d m_X11_sought 50 [(0, .ref 1), (1, .int x1), (2, .int x2), (3, .int x3), (4, .int x4), (5, .int x5), (6, .int x6), (7, .int x7), (8, .int j8)] [.int ((Int32.ofInt 3) * x7), .ref 46, .int x3, .int x2] S R _
        refine u_cv (rest := [.int x3, .int x2]) rfl (by decide) mt_X8_at rfl rfl rfl rfl (Nat.le_of_ble_eq_true rfl) (Nat.le_of_ble_eq_true rfl) (Nat.le_of_ble_eq_true rfl) (fun d' => c_X8_at L xs m d' ((Int32.ofInt 3) * x7) S R) ?_
        rintro _ _ _ ⟨_, rfl, rfl, rfl, rfl⟩
        refine u_st rfl (fun _ => rfl) ?_
        show u_P L xs m d m_X11_sought 54 [(0, .ref 1), (1, .int x1), (2, .int x2), (3, .int x3), (4, .int x4), (5, .int x5), (6, .int x6), (7, .int x7), (8, .int j8)] [.int (x3 - (f_X8_at ((Int32.ofInt 3) * x7) S)), .int x2] S R _
        refine u_abs rfl ?_
        refine u_st rfl (fun _ => rfl) ?_
        refine u_st rfl (fun _ => rfl) ?_
        refine u_st rfl (fun _ => rfl) ?_
        refine u_st rfl (fun _ => rfl) ?_
        show u_P L xs m d m_X11_sought 63 [(8, .int (x2 * (z_abs (x3 - (f_X8_at ((Int32.ofInt 3) * x7) S))))), (0, .ref 1), (1, .int x1), (2, .int x2), (3, .int x3), (4, .int x4), (5, .int x5), (6, .int x6), (7, .int x7)] [.ref 1, .int x5] S R _
        refine u_getr rfl v_tyC rfl ?_
        refine u_st rfl (fun _ => rfl) ?_
        refine u_st rfl (fun _ => rfl) ?_
        refine u_st rfl (fun _ => rfl) ?_
        refine u_st rfl (fun _ => rfl) ?_
        refine u_st rfl (fun _ => rfl) ?_
        show u_P L xs m d m_X11_sought 72 [(8, .int (x2 * (z_abs (x3 - (f_X8_at ((Int32.ofInt 3) * x7) S))))), (0, .ref 1), (1, .int x1), (2, .int x2), (3, .int x3), (4, .int x4), (5, .int x5), (6, .int x6), (7, .int x7)] [.int (((Int32.ofInt 3) * x7) + (Int32.ofInt 1)), .ref 46, .int x5] S R _
        refine u_cv (rest := [.int x5]) rfl (by decide) mt_X8_at rfl rfl rfl rfl (Nat.le_of_ble_eq_true rfl) (Nat.le_of_ble_eq_true rfl) (Nat.le_of_ble_eq_true rfl) (fun d' => c_X8_at L xs m d' (((Int32.ofInt 3) * x7) + (Int32.ofInt 1)) S R) ?_
        rintro _ _ _ ⟨_, rfl, rfl, rfl, rfl⟩
        refine u_st rfl (fun _ => rfl) ?_
        refine u_st rfl (fun _ => rfl) ?_
        show u_P L xs m d m_X11_sought 78 [(8, .int (x2 * (z_abs (x3 - (f_X8_at ((Int32.ofInt 3) * x7) S))))), (0, .ref 1), (1, .int x1), (2, .int x2), (3, .int x3), (4, .int x4), (5, .int x5), (6, .int x6), (7, .int x7)] [.int ((f_X8_at (((Int32.ofInt 3) * x7) + (Int32.ofInt 1)) S) - (x2 * (z_abs (x3 - (f_X8_at ((Int32.ofInt 3) * x7) S))))), .int x5] S R _
        refine u_max rfl ?_
        refine u_st rfl (fun _ => rfl) ?_
        refine u_st rfl (fun _ => rfl) ?_
        refine u_st rfl (fun _ => rfl) ?_
        show u_P L xs m d m_X11_sought 86 [(5, .int (z_max x5 ((f_X8_at (((Int32.ofInt 3) * x7) + (Int32.ofInt 1)) S) - (x2 * (z_abs (x3 - (f_X8_at ((Int32.ofInt 3) * x7) S))))))), (8, .int (x2 * (z_abs (x3 - (f_X8_at ((Int32.ofInt 3) * x7) S))))), (0, .ref 1), (1, .int x1), (2, .int x2), (3, .int x3), (4, .int x4), (6, .int x6), (7, .int x7)] [.ref 1, .int x6] S R _
        refine u_getr rfl v_tyC rfl ?_
        refine u_st rfl (fun _ => rfl) ?_
        refine u_st rfl (fun _ => rfl) ?_
        refine u_st rfl (fun _ => rfl) ?_
        refine u_st rfl (fun _ => rfl) ?_
        refine u_st rfl (fun _ => rfl) ?_
        show u_P L xs m d m_X11_sought 95 [(5, .int (z_max x5 ((f_X8_at (((Int32.ofInt 3) * x7) + (Int32.ofInt 1)) S) - (x2 * (z_abs (x3 - (f_X8_at ((Int32.ofInt 3) * x7) S))))))), (8, .int (x2 * (z_abs (x3 - (f_X8_at ((Int32.ofInt 3) * x7) S))))), (0, .ref 1), (1, .int x1), (2, .int x2), (3, .int x3), (4, .int x4), (6, .int x6), (7, .int x7)] [.int (((Int32.ofInt 3) * x7) + (Int32.ofInt 2)), .ref 46, .int x6] S R _
        refine u_cv (rest := [.int x6]) rfl (by decide) mt_X8_at rfl rfl rfl rfl (Nat.le_of_ble_eq_true rfl) (Nat.le_of_ble_eq_true rfl) (Nat.le_of_ble_eq_true rfl) (fun d' => c_X8_at L xs m d' (((Int32.ofInt 3) * x7) + (Int32.ofInt 2)) S R) ?_
        rintro _ _ _ ⟨_, rfl, rfl, rfl, rfl⟩
        refine u_st rfl (fun _ => rfl) ?_
        refine u_st rfl (fun _ => rfl) ?_
        show u_P L xs m d m_X11_sought 101 [(5, .int (z_max x5 ((f_X8_at (((Int32.ofInt 3) * x7) + (Int32.ofInt 1)) S) - (x2 * (z_abs (x3 - (f_X8_at ((Int32.ofInt 3) * x7) S))))))), (8, .int (x2 * (z_abs (x3 - (f_X8_at ((Int32.ofInt 3) * x7) S))))), (0, .ref 1), (1, .int x1), (2, .int x2), (3, .int x3), (4, .int x4), (6, .int x6), (7, .int x7)] [.int ((f_X8_at (((Int32.ofInt 3) * x7) + (Int32.ofInt 2)) S) + (x2 * (z_abs (x3 - (f_X8_at ((Int32.ofInt 3) * x7) S))))), .int x6] S R _
        refine u_min rfl ?_
        refine u_st rfl (fun _ => rfl) ?_
        refine u_st rfl (fun _ => rfl) ?_
        refine u_st rfl (fun _ => rfl) ?_
        refine u_lc (b := [(0, .ref 1), (1, .int x1), (2, .int x2), (3, .int x3), (4, .int x4), (5, .int (z_max x5 ((f_X8_at (((Int32.ofInt 3) * x7) + (Int32.ofInt 1)) S) - (x2 * (z_abs (x3 - (f_X8_at ((Int32.ofInt 3) * x7) S))))))), (6, .int (z_min x6 ((f_X8_at (((Int32.ofInt 3) * x7) + (Int32.ofInt 2)) S) + (x2 * (z_abs (x3 - (f_X8_at ((Int32.ofInt 3) * x7) S))))))), (7, .int (x7 + (Int32.ofInt 1))), (8, .int (x2 * (z_abs (x3 - (f_X8_at ((Int32.ofInt 3) * x7) S)))))]) (show ([7, 6, 5, 8, 0, 1, 2, 3, 4] : List Nat).Nodup by decide) (show ([0, 1, 2, 3, 4, 5, 6, 7, 8] : List Nat).Nodup by decide) (fun i => match i with | 0 => rfl | 1 => rfl | 2 => rfl | 3 => rfl | 4 => rfl | 5 => rfl | 6 => rfl | 7 => rfl | 8 => rfl | _ + 9 => rfl) ?_
        exact (ih m hm).2 d (x2 * (z_abs (x3 - (f_X8_at ((Int32.ofInt 3) * x7) S)))) x1 x2 x3 x4 (z_max x5 ((f_X8_at (((Int32.ofInt 3) * x7) + (Int32.ofInt 1)) S) - (x2 * (z_abs (x3 - (f_X8_at ((Int32.ofInt 3) * x7) S)))))) (z_min x6 ((f_X8_at (((Int32.ofInt 3) * x7) + (Int32.ofInt 2)) S) + (x2 * (z_abs (x3 - (f_X8_at ((Int32.ofInt 3) * x7) S)))))) (x7 + (Int32.ofInt 1)) S hD
set_option maxRecDepth 4000 in
theorem w_X11_sought (L : Nat) (xs : Nat → Int32) {R : v_Rf} (a : Int32) (b : Int32) (i : Int32) (j : Int32) (H34 : Int32 → Int32 → Int32 → Int32 → Int32 → Int32 → Int32 → v_Sf → Prop) (K : Int32 → v_Sf → Prop) (k34 : ∀ (x1 : Int32) (x2 : Int32) (x3 : Int32) (x4 : Int32) (x5 : Int32) (x6 : Int32) (x7 : Int32) (S : v_Sf), H34 x1 x2 x3 x4 x5 x6 x7 S → D_X11_sought_34 H34 K x1 x2 x3 x4 x5 x6 x7 S) (n d : Nat) (S : v_Sf) (hD : D_X11_sought a b i j H34 K S) : u_P L xs n d m_X11_sought 0 (lv_args 0 [.ref 1, .int a, .int b, .int i, .int j]) [] S R (z_Q R K) := by
  unfold D_X11_sought at hD
  show u_P L xs n d m_X11_sought 0 [(0, .ref 1), (1, .int a), (2, .int b), (3, .int i), (4, .int j)] [] S R _
  refine u_st rfl (fun _ => rfl) ?_
  refine u_st rfl (fun _ => rfl) ?_
  show u_P L xs n d m_X11_sought 2 [(0, .ref 1), (1, .int a), (2, .int b), (3, .int i), (4, .int j)] [.int a, .ref 1] S R _
  refine u_cv (rest := []) rfl (by decide) mt_X11_sightingsStand v_tyC rfl rfl rfl (Nat.le_of_ble_eq_true rfl) (Nat.le_of_ble_eq_true rfl) (Nat.le_of_ble_eq_true rfl) (fun d' => c_X11_sightingsStand L xs n d' a S R) ?_
  rintro _ _ _ ⟨_, rfl, rfl, rfl, rfl⟩
  show u_P L xs n d m_X11_sought 5 [(0, .ref 1), (1, .int a), (2, .int b), (3, .int i), (4, .int j)] [.int (f_X11_sightingsStand a S)] S R _
  refine u_if_ne rfl (fun h1 => ?_) (fun h1 => ?_)
  · have hD := hD.1 h1
    show u_P L xs n d m_X11_sought 11 [(0, .ref 1), (1, .int a), (2, .int b), (3, .int i), (4, .int j)] [] S R _
    refine u_st rfl (fun _ => rfl) ?_
    refine u_st rfl (fun _ => rfl) ?_
    refine u_st rfl (fun _ => rfl) ?_
    show u_P L xs n d m_X11_sought 14 [(0, .ref 1), (1, .int a), (2, .int b), (3, .int i), (4, .int j)] [.int b, .int a, .ref 1] S R _
    refine u_cv (rest := []) rfl (by decide) mt_X11_sightingsAgree v_tyC rfl rfl rfl (Nat.le_of_ble_eq_true rfl) (Nat.le_of_ble_eq_true rfl) (Nat.le_of_ble_eq_true rfl) (fun d' => c_X11_sightingsAgree L xs n d' a b S R) ?_
    rintro _ _ _ ⟨_, rfl, rfl, rfl, rfl⟩
    show u_P L xs n d m_X11_sought 17 [(0, .ref 1), (1, .int a), (2, .int b), (3, .int i), (4, .int j)] [.int (f_X11_sightingsAgree a b S)] S R _
    refine u_if_ne rfl (fun h2 => ?_) (fun h2 => ?_)
    · have hD := hD.1 h2
      show u_P L xs n d m_X11_sought 23 [(0, .ref 1), (1, .int a), (2, .int b), (3, .int i), (4, .int j)] [] S R _
      refine u_st rfl (fun _ => rfl) ?_
      refine u_st rfl (fun _ => rfl) ?_
      refine u_st rfl (fun _ => rfl) ?_
      refine u_st rfl (fun _ => rfl) ?_
      refine u_st rfl (fun _ => rfl) ?_
      refine u_st rfl (fun _ => rfl) ?_
      refine u_lc (b := [(0, .ref 1), (1, .int a), (2, .int b), (3, .int i), (4, .int j), (5, .int (Int32.ofInt 0)), (6, .int (Int32.ofInt 250)), (7, .int (Int32.ofInt 0))]) (show ([7, 6, 5, 0, 1, 2, 3, 4] : List Nat).Nodup by decide) (show ([0, 1, 2, 3, 4, 5, 6, 7] : List Nat).Nodup by decide) (fun i => match i with | 0 => rfl | 1 => rfl | 2 => rfl | 3 => rfl | 4 => rfl | 5 => rfl | 6 => rfl | 7 => rfl | _ + 8 => rfl) ?_
      exact (hd_X11_sought L xs a b i j H34 K k34 n).1 d a b i j (Int32.ofInt 0) (Int32.ofInt 250) (Int32.ofInt 0) S hD
    · have hD := hD.2 h2
      show u_P L xs n d m_X11_sought 20 [(0, .ref 1), (1, .int a), (2, .int b), (3, .int i), (4, .int j)] [] S R _
      refine u_st rfl (fun _ => rfl) ?_
      show u_P L xs n d m_X11_sought 22 [(0, .ref 1), (1, .int a), (2, .int b), (3, .int i), (4, .int j)] [.int (Int32.ofInt (-2))] S R _
      exact u_ret rfl rfl ⟨_, rfl, rfl, hD⟩
  · have hD := hD.2 h1
    show u_P L xs n d m_X11_sought 8 [(0, .ref 1), (1, .int a), (2, .int b), (3, .int i), (4, .int j)] [] S R _
    refine u_st rfl (fun _ => rfl) ?_
    show u_P L xs n d m_X11_sought 10 [(0, .ref 1), (1, .int a), (2, .int b), (3, .int i), (4, .int j)] [.int (Int32.ofInt (-3))] S R _
    exact u_ret rfl rfl ⟨_, rfl, rfl, hD⟩
noncomputable def r_X11_sought_34 (x1 : Int32) (x2 : Int32) (x3 : Int32) (x4 : Int32) (S : v_Sf) : Nat → Nat → Int32 → Int32 → Int32
  | 0, k34, x5, x6 => (if (Int32.ofInt 2) ≤ x4 then ((x6 - x5) + x4) / x4 else (if ¬ x4 = 0 then x6 else x5))
  | r + 1, k34, x5, x6 => r_X11_sought_34 x1 x2 x3 x4 S r (k34 + 1) (z_max x5 ((f_X8_at (((Int32.ofInt 3) * (z_i k34)) + (Int32.ofInt 1)) S) - (x2 * (z_abs (x3 - (f_X8_at ((Int32.ofInt 3) * (z_i k34)) S)))))) (z_min x6 ((f_X8_at (((Int32.ofInt 3) * (z_i k34)) + (Int32.ofInt 2)) S) + (x2 * (z_abs (x3 - (f_X8_at ((Int32.ofInt 3) * (z_i k34)) S))))))
noncomputable def F_X11_sought (a : Int32) (b : Int32) (i : Int32) (j : Int32) (S : v_Sf) : Int32 := (if ¬ (f_X11_sightingsStand a S) = 0 then (if ¬ (f_X11_sightingsAgree a b S) = 0 then r_X11_sought_34 a b i j S (a.toInt.toNat - 0) 0 (Int32.ofInt 0) (Int32.ofInt 250) else Int32.ofInt (-2)) else Int32.ofInt (-3))
noncomputable def f_X11_sought (a : Int32) (b : Int32) (i : Int32) (j : Int32) (S : v_Sf) : Int32 := F_X11_sought a b i j S
theorem c_X11_sought (L : Nat) (xs : Nat → Int32) (n d : Nat) (a : Int32) (b : Int32) (i : Int32) (j : Int32) (S : v_Sf) (R : v_Rf) : u_P L xs n d m_X11_sought 0 (lv_args 0 [.ref 1, .int a, .int b, .int i, .int j]) [] S R (z_Q R (fun v S1 => f_X11_sought a b i j S = v ∧ S = S1)) := by
  refine w_X11_sought L xs a b i j (fun y1 y2 y3 y4 y5 y6 y7 T => ∃ (k34 : Nat), k34 ≤ a.toInt.toNat ∧ z_i k34 = y7 ∧ a = y1 ∧ b = y2 ∧ i = y3 ∧ j = y4 ∧ S = T ∧ r_X11_sought_34 a b i j S (a.toInt.toNat - k34) k34 y5 y6 = F_X11_sought a b i j S) (fun v S1 => f_X11_sought a b i j S = v ∧ S = S1) ?_ n d S ?_
  · rintro _ _ _ _ x5 x6 _ _ ⟨k34, hkk, rfl, rfl, rfl, rfl, rfl, rfl, e⟩
    unfold D_X11_sought_34
    rcases Nat.lt_or_ge k34 (a.toInt.toNat) with hk | hk
    · rw [show a.toInt.toNat - k34 = (a.toInt.toNat - (k34 + 1)) + 1 by omega, r_X11_sought_34] at e
      refine ⟨fun q1 => ?_, fun q1 => ?_⟩
      · exact absurd hk (Nat.not_lt.mpr (z_leV q1 (by omega)))
      · exact ⟨(k34 + 1), by omega, (z_i1 k34).symm, rfl, rfl, rfl, rfl, rfl, e⟩
    · rw [show a.toInt.toNat - k34 = 0 by omega, r_X11_sought_34] at e
      refine ⟨fun q2 => ?_, fun q2 => ?_⟩
      · refine ⟨fun q3 => ?_, fun q3 => ?_⟩
        · intro _
          rw [if_pos q3] at e
          exact ⟨e.symm, rfl⟩
        · refine ⟨fun q4 => ?_, fun q4 => ?_⟩
          · rw [if_neg q3, if_pos q4] at e
            exact ⟨e.symm, rfl⟩
          · rw [if_neg q3, if_neg q4] at e
            exact ⟨e.symm, rfl⟩
      · exact absurd hk (Nat.not_le.mpr (z_ltV q2 (by omega)))
  · unfold D_X11_sought
    refine ⟨fun q5 => ?_, fun q5 => ?_⟩
    · refine ⟨fun q6 => ?_, fun q6 => ?_⟩
      · have e : r_X11_sought_34 a b i j S (a.toInt.toNat - 0) 0 (Int32.ofInt 0) (Int32.ofInt 250) = F_X11_sought a b i j S := by rw [F_X11_sought, if_pos q5, if_pos q6]
        exact ⟨0, by omega, rfl, rfl, rfl, rfl, rfl, rfl, e⟩
      · have e : Int32.ofInt (-2) = F_X11_sought a b i j S := by rw [F_X11_sought, if_pos q5, if_neg q6]
        exact ⟨e.symm, rfl⟩
    · have e : Int32.ofInt (-3) = F_X11_sought a b i j S := by rw [F_X11_sought, if_neg q5]
      exact ⟨e.symm, rfl⟩
noncomputable abbrev m_X11_escaped : g_M := (g_cn 11, yX11_escaped, cX11_escaped, 7, (some .int), g_look2 ttX11_escaped)
set_option maxRecDepth 20000 in
theorem mt_X11_escaped : g_mt 141 = some m_X11_escaped := rfl
noncomputable def f_X11_escaped (a : Int32) (b : Int32) (i : Int32) (j : Int32) (S : v_Sf) : Int32 := (if a < (Int32.ofInt 1) then Int32.ofInt (-1) else (if (Int32.ofInt 8) < a then Int32.ofInt (-1) else (if (f_X11_within b (Int32.ofInt 99)) = 0 then Int32.ofInt (-1) else (if (f_X11_within i (Int32.ofInt 255)) = 0 then Int32.ofInt (-1) else (if (f_X11_within j (Int32.ofInt 99)) = 0 then Int32.ofInt (-1) else (if ((Int32.ofInt 3) * a) ≤ (S 45 1) then f_X11_sought a b i j S else Int32.ofInt (-1)))))))
noncomputable def g_X11_escaped (a : Int32) (b : Int32) (i : Int32) (j : Int32) (S : v_Sf) : v_Sf := (if a < (Int32.ofInt 1) then S else (if (Int32.ofInt 8) < a then S else (if (f_X11_within b (Int32.ofInt 99)) = 0 then S else (if (f_X11_within i (Int32.ofInt 255)) = 0 then S else (if (f_X11_within j (Int32.ofInt 99)) = 0 then S else (if ((Int32.ofInt 3) * a) ≤ (S 45 1) then g_X8_empty S else S))))))
set_option maxRecDepth 4000 in
theorem c_X11_escaped (L : Nat) (xs : Nat → Int32) (n d : Nat) (a : Int32) (b : Int32) (i : Int32) (j : Int32) (S : v_Sf) (R : v_Rf) : u_P L xs n d m_X11_escaped 0 (lv_args 0 [.ref 1, .int a, .int b, .int i, .int j]) [] S R (z_Q R (fun v S1 => f_X11_escaped a b i j S = v ∧ g_X11_escaped a b i j S = S1)) := by
  show u_P L xs n d m_X11_escaped 0 [(0, .ref 1), (1, .int a), (2, .int b), (3, .int i), (4, .int j)] [] S R _
  refine u_st rfl (fun _ => rfl) ?_
  refine u_st rfl (fun _ => rfl) ?_
  show u_P L xs n d m_X11_escaped 2 [(0, .ref 1), (1, .int a), (2, .int b), (3, .int i), (4, .int j)] [.int (Int32.ofInt 1), .int a] S R _
  refine u_ic_lt rfl (fun h1 => ?_) (fun h1 => ?_)
  · show u_P L xs n d m_X11_escaped 44 [(0, .ref 1), (1, .int a), (2, .int b), (3, .int i), (4, .int j)] [] S R _
    refine u_st rfl (fun _ => rfl) ?_
    refine u_st rfl (fun _ => rfl) ?_
    refine u_st rfl (fun _ => rfl) ?_
    show u_P L xs n d m_X11_escaped 49 [(5, .int (Int32.ofInt 0)), (0, .ref 1), (1, .int a), (2, .int b), (3, .int i), (4, .int j)] [.int (Int32.ofInt 0)] S R _
    refine u_st rfl (fun _ => rfl) ?_
    refine u_st rfl (fun _ => rfl) ?_
    show u_P L xs n d m_X11_escaped 66 [(5, .int (Int32.ofInt 0)), (0, .ref 1), (1, .int a), (2, .int b), (3, .int i), (4, .int j)] [.int (Int32.ofInt (-1))] S R _
    exact u_ret rfl rfl ⟨_, rfl, rfl, by rw [f_X11_escaped, if_pos h1], by rw [g_X11_escaped, if_pos h1]⟩
  · show u_P L xs n d m_X11_escaped 5 [(0, .ref 1), (1, .int a), (2, .int b), (3, .int i), (4, .int j)] [] S R _
    refine u_st rfl (fun _ => rfl) ?_
    refine u_st rfl (fun _ => rfl) ?_
    show u_P L xs n d m_X11_escaped 8 [(0, .ref 1), (1, .int a), (2, .int b), (3, .int i), (4, .int j)] [.int (Int32.ofInt 8), .int a] S R _
    refine u_ic_gt rfl (fun h2 => ?_) (fun h2 => ?_)
    · show u_P L xs n d m_X11_escaped 44 [(0, .ref 1), (1, .int a), (2, .int b), (3, .int i), (4, .int j)] [] S R _
      refine u_st rfl (fun _ => rfl) ?_
      refine u_st rfl (fun _ => rfl) ?_
      refine u_st rfl (fun _ => rfl) ?_
      show u_P L xs n d m_X11_escaped 49 [(5, .int (Int32.ofInt 0)), (0, .ref 1), (1, .int a), (2, .int b), (3, .int i), (4, .int j)] [.int (Int32.ofInt 0)] S R _
      refine u_st rfl (fun _ => rfl) ?_
      refine u_st rfl (fun _ => rfl) ?_
      show u_P L xs n d m_X11_escaped 66 [(5, .int (Int32.ofInt 0)), (0, .ref 1), (1, .int a), (2, .int b), (3, .int i), (4, .int j)] [.int (Int32.ofInt (-1))] S R _
      exact u_ret rfl rfl ⟨_, rfl, rfl, by rw [f_X11_escaped, if_neg h1, if_pos h2], by rw [g_X11_escaped, if_neg h1, if_pos h2]⟩
    · show u_P L xs n d m_X11_escaped 11 [(0, .ref 1), (1, .int a), (2, .int b), (3, .int i), (4, .int j)] [] S R _
      refine u_st rfl (fun _ => rfl) ?_
      refine u_st rfl (fun _ => rfl) ?_
      show u_P L xs n d m_X11_escaped 14 [(0, .ref 1), (1, .int a), (2, .int b), (3, .int i), (4, .int j)] [.int (Int32.ofInt 99), .int b] S R _
      refine u_cs (ac := [.int b, .int (Int32.ofInt 99)]) (rest := []) rfl (by decide) mt_X11_within (fun _ => rfl) (Nat.le_of_ble_eq_true rfl) (Nat.le_of_ble_eq_true rfl) (fun d' => c_X11_within L xs n d' b (Int32.ofInt 99) S R) ?_
      rintro _ _ _ ⟨_, rfl, rfl, rfl, rfl⟩
      show u_P L xs n d m_X11_escaped 17 [(0, .ref 1), (1, .int a), (2, .int b), (3, .int i), (4, .int j)] [.int (f_X11_within b (Int32.ofInt 99))] S R _
      refine u_if_eq rfl (fun h3 => ?_) (fun h3 => ?_)
      · show u_P L xs n d m_X11_escaped 44 [(0, .ref 1), (1, .int a), (2, .int b), (3, .int i), (4, .int j)] [] S R _
        refine u_st rfl (fun _ => rfl) ?_
        refine u_st rfl (fun _ => rfl) ?_
        refine u_st rfl (fun _ => rfl) ?_
        show u_P L xs n d m_X11_escaped 49 [(5, .int (Int32.ofInt 0)), (0, .ref 1), (1, .int a), (2, .int b), (3, .int i), (4, .int j)] [.int (Int32.ofInt 0)] S R _
        refine u_st rfl (fun _ => rfl) ?_
        refine u_st rfl (fun _ => rfl) ?_
        show u_P L xs n d m_X11_escaped 66 [(5, .int (Int32.ofInt 0)), (0, .ref 1), (1, .int a), (2, .int b), (3, .int i), (4, .int j)] [.int (Int32.ofInt (-1))] S R _
        exact u_ret rfl rfl ⟨_, rfl, rfl, by rw [f_X11_escaped, if_neg h1, if_neg h2, if_pos h3], by rw [g_X11_escaped, if_neg h1, if_neg h2, if_pos h3]⟩
      · show u_P L xs n d m_X11_escaped 20 [(0, .ref 1), (1, .int a), (2, .int b), (3, .int i), (4, .int j)] [] S R _
        refine u_st rfl (fun _ => rfl) ?_
        refine u_st rfl (fun _ => rfl) ?_
        show u_P L xs n d m_X11_escaped 24 [(0, .ref 1), (1, .int a), (2, .int b), (3, .int i), (4, .int j)] [.int (Int32.ofInt 255), .int i] S R _
        refine u_cs (ac := [.int i, .int (Int32.ofInt 255)]) (rest := []) rfl (by decide) mt_X11_within (fun _ => rfl) (Nat.le_of_ble_eq_true rfl) (Nat.le_of_ble_eq_true rfl) (fun d' => c_X11_within L xs n d' i (Int32.ofInt 255) S R) ?_
        rintro _ _ _ ⟨_, rfl, rfl, rfl, rfl⟩
        show u_P L xs n d m_X11_escaped 27 [(0, .ref 1), (1, .int a), (2, .int b), (3, .int i), (4, .int j)] [.int (f_X11_within i (Int32.ofInt 255))] S R _
        refine u_if_eq rfl (fun h4 => ?_) (fun h4 => ?_)
        · show u_P L xs n d m_X11_escaped 44 [(0, .ref 1), (1, .int a), (2, .int b), (3, .int i), (4, .int j)] [] S R _
          refine u_st rfl (fun _ => rfl) ?_
          refine u_st rfl (fun _ => rfl) ?_
          refine u_st rfl (fun _ => rfl) ?_
          show u_P L xs n d m_X11_escaped 49 [(5, .int (Int32.ofInt 0)), (0, .ref 1), (1, .int a), (2, .int b), (3, .int i), (4, .int j)] [.int (Int32.ofInt 0)] S R _
          refine u_st rfl (fun _ => rfl) ?_
          refine u_st rfl (fun _ => rfl) ?_
          show u_P L xs n d m_X11_escaped 66 [(5, .int (Int32.ofInt 0)), (0, .ref 1), (1, .int a), (2, .int b), (3, .int i), (4, .int j)] [.int (Int32.ofInt (-1))] S R _
          exact u_ret rfl rfl ⟨_, rfl, rfl, by rw [f_X11_escaped, if_neg h1, if_neg h2, if_neg h3, if_pos h4], by rw [g_X11_escaped, if_neg h1, if_neg h2, if_neg h3, if_pos h4]⟩
        · show u_P L xs n d m_X11_escaped 30 [(0, .ref 1), (1, .int a), (2, .int b), (3, .int i), (4, .int j)] [] S R _
          refine u_st rfl (fun _ => rfl) ?_
          refine u_st rfl (fun _ => rfl) ?_
          show u_P L xs n d m_X11_escaped 34 [(0, .ref 1), (1, .int a), (2, .int b), (3, .int i), (4, .int j)] [.int (Int32.ofInt 99), .int j] S R _
          refine u_cs (ac := [.int j, .int (Int32.ofInt 99)]) (rest := []) rfl (by decide) mt_X11_within (fun _ => rfl) (Nat.le_of_ble_eq_true rfl) (Nat.le_of_ble_eq_true rfl) (fun d' => c_X11_within L xs n d' j (Int32.ofInt 99) S R) ?_
          rintro _ _ _ ⟨_, rfl, rfl, rfl, rfl⟩
          show u_P L xs n d m_X11_escaped 37 [(0, .ref 1), (1, .int a), (2, .int b), (3, .int i), (4, .int j)] [.int (f_X11_within j (Int32.ofInt 99))] S R _
          refine u_if_eq rfl (fun h5 => ?_) (fun h5 => ?_)
          · show u_P L xs n d m_X11_escaped 44 [(0, .ref 1), (1, .int a), (2, .int b), (3, .int i), (4, .int j)] [] S R _
            refine u_st rfl (fun _ => rfl) ?_
            refine u_st rfl (fun _ => rfl) ?_
            refine u_st rfl (fun _ => rfl) ?_
            show u_P L xs n d m_X11_escaped 49 [(5, .int (Int32.ofInt 0)), (0, .ref 1), (1, .int a), (2, .int b), (3, .int i), (4, .int j)] [.int (Int32.ofInt 0)] S R _
            refine u_st rfl (fun _ => rfl) ?_
            refine u_st rfl (fun _ => rfl) ?_
            show u_P L xs n d m_X11_escaped 66 [(5, .int (Int32.ofInt 0)), (0, .ref 1), (1, .int a), (2, .int b), (3, .int i), (4, .int j)] [.int (Int32.ofInt (-1))] S R _
            exact u_ret rfl rfl ⟨_, rfl, rfl, by rw [f_X11_escaped, if_neg h1, if_neg h2, if_neg h3, if_neg h4, if_pos h5], by rw [g_X11_escaped, if_neg h1, if_neg h2, if_neg h3, if_neg h4, if_pos h5]⟩
          · show u_P L xs n d m_X11_escaped 40 [(0, .ref 1), (1, .int a), (2, .int b), (3, .int i), (4, .int j)] [] S R _
            refine u_st rfl (fun _ => rfl) ?_
            refine u_st rfl (fun _ => rfl) ?_
            refine u_st rfl (fun _ => rfl) ?_
            refine u_st rfl (fun _ => rfl) ?_
            show u_P L xs n d m_X11_escaped 49 [(5, .int (Int32.ofInt 1)), (0, .ref 1), (1, .int a), (2, .int b), (3, .int i), (4, .int j)] [.int (Int32.ofInt 1)] S R _
            refine u_st rfl (fun _ => rfl) ?_
            refine u_st rfl (fun _ => rfl) ?_
            refine u_st rfl (fun _ => rfl) ?_
            refine u_st rfl (fun _ => rfl) ?_
            refine u_st rfl (fun _ => rfl) ?_
            show u_P L xs n d m_X11_escaped 56 [(5, .int (Int32.ofInt 1)), (0, .ref 1), (1, .int a), (2, .int b), (3, .int i), (4, .int j)] [.ref 1, .int ((Int32.ofInt 3) * a)] S R _
            refine u_getr rfl v_tyC rfl ?_
            show u_P L xs n d m_X11_escaped 59 [(5, .int (Int32.ofInt 1)), (0, .ref 1), (1, .int a), (2, .int b), (3, .int i), (4, .int j)] [.ref 46, .int ((Int32.ofInt 3) * a)] S R _
            refine u_getE (v := S 45 1) rfl rfl rfl rfl ?_
            show u_P L xs n d m_X11_escaped 62 [(5, .int (Int32.ofInt 1)), (0, .ref 1), (1, .int a), (2, .int b), (3, .int i), (4, .int j)] [.int (S 45 1), .int ((Int32.ofInt 3) * a)] S R _
            refine u_ic_le rfl (fun h6 => ?_) (fun h6 => ?_)
            · show u_P L xs n d m_X11_escaped 67 [(5, .int (Int32.ofInt 1)), (0, .ref 1), (1, .int a), (2, .int b), (3, .int i), (4, .int j)] [] S R _
              refine u_st rfl (fun _ => rfl) ?_
              refine u_st rfl (fun _ => rfl) ?_
              refine u_st rfl (fun _ => rfl) ?_
              refine u_st rfl (fun _ => rfl) ?_
              refine u_st rfl (fun _ => rfl) ?_
              show u_P L xs n d m_X11_escaped 73 [(5, .int (Int32.ofInt 1)), (0, .ref 1), (1, .int a), (2, .int b), (3, .int i), (4, .int j)] [.int j, .int i, .int b, .int a, .ref 1] S R _
              refine u_cv (rest := []) rfl (by decide) mt_X11_sought v_tyC rfl rfl rfl (Nat.le_of_ble_eq_true rfl) (Nat.le_of_ble_eq_true rfl) (Nat.le_of_ble_eq_true rfl) (fun d' => c_X11_sought L xs n d' a b i j S R) ?_
              rintro _ _ _ ⟨_, rfl, rfl, rfl, rfl⟩
              refine u_st rfl (fun _ => rfl) ?_
              refine u_st rfl (fun _ => rfl) ?_
              show u_P L xs n d m_X11_escaped 79 [(6, .int (f_X11_sought a b i j S)), (5, .int (Int32.ofInt 1)), (0, .ref 1), (1, .int a), (2, .int b), (3, .int i), (4, .int j)] [.ref 1] S R _
              refine u_getr rfl v_tyC rfl ?_
              show u_P L xs n d m_X11_escaped 82 [(6, .int (f_X11_sought a b i j S)), (5, .int (Int32.ofInt 1)), (0, .ref 1), (1, .int a), (2, .int b), (3, .int i), (4, .int j)] [.ref 46] S R _
              refine u_cv (rest := []) rfl (by decide) mt_X8_empty rfl rfl rfl rfl (Nat.le_of_ble_eq_true rfl) (Nat.le_of_ble_eq_true rfl) (Nat.le_of_ble_eq_true rfl) (fun d' => c_X8_empty L xs n d' S R) ?_
              rintro _ _ _ ⟨rfl, rfl, rfl⟩
              refine u_st rfl (fun _ => rfl) ?_
              show u_P L xs n d m_X11_escaped 87 [(6, .int (f_X11_sought a b i j S)), (5, .int (Int32.ofInt 1)), (0, .ref 1), (1, .int a), (2, .int b), (3, .int i), (4, .int j)] [.int (f_X11_sought a b i j S)] (g_X8_empty S) R _
              exact u_ret rfl rfl ⟨_, rfl, rfl, by rw [f_X11_escaped, if_neg h1, if_neg h2, if_neg h3, if_neg h4, if_neg h5, if_pos h6], by rw [g_X11_escaped, if_neg h1, if_neg h2, if_neg h3, if_neg h4, if_neg h5, if_pos h6]⟩
            · show u_P L xs n d m_X11_escaped 65 [(5, .int (Int32.ofInt 1)), (0, .ref 1), (1, .int a), (2, .int b), (3, .int i), (4, .int j)] [] S R _
              refine u_st rfl (fun _ => rfl) ?_
              show u_P L xs n d m_X11_escaped 66 [(5, .int (Int32.ofInt 1)), (0, .ref 1), (1, .int a), (2, .int b), (3, .int i), (4, .int j)] [.int (Int32.ofInt (-1))] S R _
              exact u_ret rfl rfl ⟨_, rfl, rfl, by rw [f_X11_escaped, if_neg h1, if_neg h2, if_neg h3, if_neg h4, if_neg h5, if_neg h6], by rw [g_X11_escaped, if_neg h1, if_neg h2, if_neg h3, if_neg h4, if_neg h5, if_neg h6]⟩
end PrtS42wb
section PrtS42wd
noncomputable def f_X12_isHigher (a : Int32) (b : Int32) (S : v_Sf) : Int32 := (if b = (Int32.ofInt (-1)) then Int32.ofInt 1 else (if (S 163 b.toInt.toNat) < (S 163 a.toInt.toNat) then Int32.ofInt 1 else (if ¬ (S 163 a.toInt.toNat) = (S 163 b.toInt.toNat) then Int32.ofInt 0 else (if b ≤ a then Int32.ofInt 0 else Int32.ofInt 1))))
set_option maxRecDepth 4000 in
theorem c_X12_isHigher (L : Nat) (xs : Nat → Int32) (n d : Nat) (a : Int32) (b : Int32) (S : v_Sf) (R : v_Rf) : u_P L xs n d m_X12_isHigher 0 (lv_args 0 [.ref 100, .int a, .int b]) [] S R (z_Q R (fun v S1 => f_X12_isHigher a b S = v ∧ S = S1)) := by
  show u_P L xs n d m_X12_isHigher 0 [(0, .ref 100), (1, .int a), (2, .int b)] [] S R _
  refine u_st rfl (fun _ => rfl) ?_
  refine u_st rfl (fun _ => rfl) ?_
  show u_P L xs n d m_X12_isHigher 2 [(0, .ref 100), (1, .int a), (2, .int b)] [.int (Int32.ofInt (-1)), .int b] S R _
  refine u_ic_eq rfl (fun h1 => ?_) (fun h1 => ?_)
  · show u_P L xs n d m_X12_isHigher 40 [(0, .ref 100), (1, .int a), (2, .int b)] [] S R _
    refine u_st rfl (fun _ => rfl) ?_
    refine u_st rfl (fun _ => rfl) ?_
    show u_P L xs n d m_X12_isHigher 45 [(0, .ref 100), (1, .int a), (2, .int b)] [.int (Int32.ofInt 1)] S R _
    exact u_retb rfl rfl ⟨_, rfl, rfl, by rw [f_X12_isHigher, if_pos h1], rfl⟩
  · show u_P L xs n d m_X12_isHigher 5 [(0, .ref 100), (1, .int a), (2, .int b)] [] S R _
    refine u_st rfl (fun _ => rfl) ?_
    show u_P L xs n d m_X12_isHigher 6 [(0, .ref 100), (1, .int a), (2, .int b)] [.ref 100] S R _
    refine u_getr rfl v_tyM rfl ?_
    refine u_st rfl (fun _ => rfl) ?_
    show u_P L xs n d m_X12_isHigher 10 [(0, .ref 100), (1, .int a), (2, .int b)] [.int a, .ref 164] S R _
    refine u_ialdE (v := S 163 a.toInt.toNat) rfl rfl rfl (fun b21 b22 => ?_)
    refine u_st rfl (fun _ => rfl) ?_
    show u_P L xs n d m_X12_isHigher 12 [(0, .ref 100), (1, .int a), (2, .int b)] [.ref 100, .int (S 163 a.toInt.toNat)] S R _
    refine u_getr rfl v_tyM rfl ?_
    refine u_st rfl (fun _ => rfl) ?_
    show u_P L xs n d m_X12_isHigher 16 [(0, .ref 100), (1, .int a), (2, .int b)] [.int b, .ref 164, .int (S 163 a.toInt.toNat)] S R _
    refine u_ialdE (v := S 163 b.toInt.toNat) rfl rfl rfl (fun b31 b32 => ?_)
    show u_P L xs n d m_X12_isHigher 17 [(0, .ref 100), (1, .int a), (2, .int b)] [.int (S 163 b.toInt.toNat), .int (S 163 a.toInt.toNat)] S R _
    refine u_ic_gt rfl (fun h4 => ?_) (fun h4 => ?_)
    · show u_P L xs n d m_X12_isHigher 40 [(0, .ref 100), (1, .int a), (2, .int b)] [] S R _
      refine u_st rfl (fun _ => rfl) ?_
      refine u_st rfl (fun _ => rfl) ?_
      show u_P L xs n d m_X12_isHigher 45 [(0, .ref 100), (1, .int a), (2, .int b)] [.int (Int32.ofInt 1)] S R _
      exact u_retb rfl rfl ⟨_, rfl, rfl, by rw [f_X12_isHigher, if_neg h1, if_pos h4], rfl⟩
    · show u_P L xs n d m_X12_isHigher 20 [(0, .ref 100), (1, .int a), (2, .int b)] [] S R _
      refine u_st rfl (fun _ => rfl) ?_
      show u_P L xs n d m_X12_isHigher 21 [(0, .ref 100), (1, .int a), (2, .int b)] [.ref 100] S R _
      refine u_getr rfl v_tyM rfl ?_
      refine u_st rfl (fun _ => rfl) ?_
      show u_P L xs n d m_X12_isHigher 25 [(0, .ref 100), (1, .int a), (2, .int b)] [.int a, .ref 164] S R _
      refine u_ialdE (v := S 163 a.toInt.toNat) rfl rfl rfl (fun b51 b52 => ?_)
      refine u_st rfl (fun _ => rfl) ?_
      show u_P L xs n d m_X12_isHigher 27 [(0, .ref 100), (1, .int a), (2, .int b)] [.ref 100, .int (S 163 a.toInt.toNat)] S R _
      refine u_getr rfl v_tyM rfl ?_
      refine u_st rfl (fun _ => rfl) ?_
      show u_P L xs n d m_X12_isHigher 31 [(0, .ref 100), (1, .int a), (2, .int b)] [.int b, .ref 164, .int (S 163 a.toInt.toNat)] S R _
      refine u_ialdE (v := S 163 b.toInt.toNat) rfl rfl rfl (fun b61 b62 => ?_)
      show u_P L xs n d m_X12_isHigher 32 [(0, .ref 100), (1, .int a), (2, .int b)] [.int (S 163 b.toInt.toNat), .int (S 163 a.toInt.toNat)] S R _
      refine u_ic_ne rfl (fun h7 => ?_) (fun h7 => ?_)
      · show u_P L xs n d m_X12_isHigher 44 [(0, .ref 100), (1, .int a), (2, .int b)] [] S R _
        refine u_st rfl (fun _ => rfl) ?_
        show u_P L xs n d m_X12_isHigher 45 [(0, .ref 100), (1, .int a), (2, .int b)] [.int (Int32.ofInt 0)] S R _
        exact u_retb rfl rfl ⟨_, rfl, rfl, by rw [f_X12_isHigher, if_neg h1, if_neg h4, if_pos h7], rfl⟩
      · show u_P L xs n d m_X12_isHigher 35 [(0, .ref 100), (1, .int a), (2, .int b)] [] S R _
        refine u_st rfl (fun _ => rfl) ?_
        refine u_st rfl (fun _ => rfl) ?_
        show u_P L xs n d m_X12_isHigher 37 [(0, .ref 100), (1, .int a), (2, .int b)] [.int b, .int a] S R _
        refine u_ic_ge rfl (fun h8 => ?_) (fun h8 => ?_)
        · show u_P L xs n d m_X12_isHigher 44 [(0, .ref 100), (1, .int a), (2, .int b)] [] S R _
          refine u_st rfl (fun _ => rfl) ?_
          show u_P L xs n d m_X12_isHigher 45 [(0, .ref 100), (1, .int a), (2, .int b)] [.int (Int32.ofInt 0)] S R _
          exact u_retb rfl rfl ⟨_, rfl, rfl, by rw [f_X12_isHigher, if_neg h1, if_neg h4, if_neg h7, if_pos h8], rfl⟩
        · show u_P L xs n d m_X12_isHigher 40 [(0, .ref 100), (1, .int a), (2, .int b)] [] S R _
          refine u_st rfl (fun _ => rfl) ?_
          refine u_st rfl (fun _ => rfl) ?_
          show u_P L xs n d m_X12_isHigher 45 [(0, .ref 100), (1, .int a), (2, .int b)] [.int (Int32.ofInt 1)] S R _
          exact u_retb rfl rfl ⟨_, rfl, rfl, by rw [f_X12_isHigher, if_neg h1, if_neg h4, if_neg h7, if_neg h8], rfl⟩
noncomputable def f_X12_isLiked (a : Int32) (b : Int32) (i : Int32) (S : v_Sf) : Int32 := (if ¬ i = (Int32.ofInt (-1)) then (if (f_X12_sizeOf ((S 122 b.toInt.toNat) &&& (S 164 a.toInt.toNat))) = (f_X12_sizeOf ((S 122 i.toInt.toNat) &&& (S 164 a.toInt.toNat))) then (if (S 117 b.toInt.toNat) = (S 117 i.toInt.toNat) then (if i ≤ b then Int32.ofInt 0 else Int32.ofInt 1) else (if (S 117 b.toInt.toNat) ≤ (S 117 i.toInt.toNat) then Int32.ofInt 0 else Int32.ofInt 1)) else (if (f_X12_sizeOf ((S 122 b.toInt.toNat) &&& (S 164 a.toInt.toNat))) ≤ (f_X12_sizeOf ((S 122 i.toInt.toNat) &&& (S 164 a.toInt.toNat))) then Int32.ofInt 0 else Int32.ofInt 1)) else Int32.ofInt 1)
set_option maxRecDepth 4000 in
theorem c_X12_isLiked (L : Nat) (xs : Nat → Int32) (n d : Nat) (a : Int32) (b : Int32) (i : Int32) (S : v_Sf) (R : v_Rf) : u_P L xs n d m_X12_isLiked 0 (lv_args 0 [.ref 100, .int a, .int b, .int i]) [] S R (z_Q R (fun v S1 => f_X12_isLiked a b i S = v ∧ S = S1)) := by
  show u_P L xs n d m_X12_isLiked 0 [(0, .ref 100), (1, .int a), (2, .int b), (3, .int i)] [] S R _
  refine u_st rfl (fun _ => rfl) ?_
  refine u_st rfl (fun _ => rfl) ?_
  show u_P L xs n d m_X12_isLiked 2 [(0, .ref 100), (1, .int a), (2, .int b), (3, .int i)] [.int (Int32.ofInt (-1)), .int i] S R _
  refine u_ic_ne rfl (fun h1 => ?_) (fun h1 => ?_)
  · show u_P L xs n d m_X12_isLiked 7 [(0, .ref 100), (1, .int a), (2, .int b), (3, .int i)] [] S R _
    refine u_st rfl (fun _ => rfl) ?_
    show u_P L xs n d m_X12_isLiked 8 [(0, .ref 100), (1, .int a), (2, .int b), (3, .int i)] [.ref 100] S R _
    refine u_getr rfl v_tyM rfl ?_
    refine u_st rfl (fun _ => rfl) ?_
    show u_P L xs n d m_X12_isLiked 12 [(0, .ref 100), (1, .int a), (2, .int b), (3, .int i)] [.int b, .ref 123] S R _
    refine u_ialdE (v := S 122 b.toInt.toNat) rfl rfl rfl (fun b21 b22 => ?_)
    refine u_st rfl (fun _ => rfl) ?_
    show u_P L xs n d m_X12_isLiked 14 [(0, .ref 100), (1, .int a), (2, .int b), (3, .int i)] [.ref 100, .int (S 122 b.toInt.toNat)] S R _
    refine u_getr rfl v_tyM rfl ?_
    refine u_st rfl (fun _ => rfl) ?_
    show u_P L xs n d m_X12_isLiked 18 [(0, .ref 100), (1, .int a), (2, .int b), (3, .int i)] [.int a, .ref 165, .int (S 122 b.toInt.toNat)] S R _
    refine u_ialdE (v := S 164 a.toInt.toNat) rfl rfl rfl (fun b31 b32 => ?_)
    refine u_st rfl (fun _ => rfl) ?_
    show u_P L xs n d m_X12_isLiked 20 [(0, .ref 100), (1, .int a), (2, .int b), (3, .int i)] [.int ((S 122 b.toInt.toNat) &&& (S 164 a.toInt.toNat))] S R _
    refine u_cs (ac := [.int ((S 122 b.toInt.toNat) &&& (S 164 a.toInt.toNat))]) (rest := []) rfl (by decide) mt_X12_sizeOf (fun _ => rfl) (Nat.le_of_ble_eq_true rfl) (Nat.le_of_ble_eq_true rfl) (fun d' => c_X12_sizeOf L xs n d' ((S 122 b.toInt.toNat) &&& (S 164 a.toInt.toNat)) S R) ?_
    rintro _ _ _ ⟨_, rfl, rfl, rfl, rfl⟩
    refine u_st rfl (fun _ => rfl) ?_
    refine u_st rfl (fun _ => rfl) ?_
    show u_P L xs n d m_X12_isLiked 26 [(4, .int (f_X12_sizeOf ((S 122 b.toInt.toNat) &&& (S 164 a.toInt.toNat)))), (0, .ref 100), (1, .int a), (2, .int b), (3, .int i)] [.ref 100] S R _
    refine u_getr rfl v_tyM rfl ?_
    refine u_st rfl (fun _ => rfl) ?_
    show u_P L xs n d m_X12_isLiked 30 [(4, .int (f_X12_sizeOf ((S 122 b.toInt.toNat) &&& (S 164 a.toInt.toNat)))), (0, .ref 100), (1, .int a), (2, .int b), (3, .int i)] [.int i, .ref 123] S R _
    refine u_ialdE (v := S 122 i.toInt.toNat) rfl rfl rfl (fun b41 b42 => ?_)
    refine u_st rfl (fun _ => rfl) ?_
    show u_P L xs n d m_X12_isLiked 32 [(4, .int (f_X12_sizeOf ((S 122 b.toInt.toNat) &&& (S 164 a.toInt.toNat)))), (0, .ref 100), (1, .int a), (2, .int b), (3, .int i)] [.ref 100, .int (S 122 i.toInt.toNat)] S R _
    refine u_getr rfl v_tyM rfl ?_
    refine u_st rfl (fun _ => rfl) ?_
    show u_P L xs n d m_X12_isLiked 36 [(4, .int (f_X12_sizeOf ((S 122 b.toInt.toNat) &&& (S 164 a.toInt.toNat)))), (0, .ref 100), (1, .int a), (2, .int b), (3, .int i)] [.int a, .ref 165, .int (S 122 i.toInt.toNat)] S R _
    refine u_ialdE (v := S 164 a.toInt.toNat) rfl rfl rfl (fun b51 b52 => ?_)
    refine u_st rfl (fun _ => rfl) ?_
    show u_P L xs n d m_X12_isLiked 38 [(4, .int (f_X12_sizeOf ((S 122 b.toInt.toNat) &&& (S 164 a.toInt.toNat)))), (0, .ref 100), (1, .int a), (2, .int b), (3, .int i)] [.int ((S 122 i.toInt.toNat) &&& (S 164 a.toInt.toNat))] S R _
    refine u_cs (ac := [.int ((S 122 i.toInt.toNat) &&& (S 164 a.toInt.toNat))]) (rest := []) rfl (by decide) mt_X12_sizeOf (fun _ => rfl) (Nat.le_of_ble_eq_true rfl) (Nat.le_of_ble_eq_true rfl) (fun d' => c_X12_sizeOf L xs n d' ((S 122 i.toInt.toNat) &&& (S 164 a.toInt.toNat)) S R) ?_
    rintro _ _ _ ⟨_, rfl, rfl, rfl, rfl⟩
    refine u_st rfl (fun _ => rfl) ?_
    refine u_st rfl (fun _ => rfl) ?_
    refine u_st rfl (fun _ => rfl) ?_
    show u_P L xs n d m_X12_isLiked 47 [(5, .int (f_X12_sizeOf ((S 122 i.toInt.toNat) &&& (S 164 a.toInt.toNat)))), (4, .int (f_X12_sizeOf ((S 122 b.toInt.toNat) &&& (S 164 a.toInt.toNat)))), (0, .ref 100), (1, .int a), (2, .int b), (3, .int i)] [.int (f_X12_sizeOf ((S 122 i.toInt.toNat) &&& (S 164 a.toInt.toNat))), .int (f_X12_sizeOf ((S 122 b.toInt.toNat) &&& (S 164 a.toInt.toNat)))] S R _
    refine u_ic_eq rfl (fun h6 => ?_) (fun h6 => ?_)
    · show u_P L xs n d m_X12_isLiked 63 [(5, .int (f_X12_sizeOf ((S 122 i.toInt.toNat) &&& (S 164 a.toInt.toNat)))), (4, .int (f_X12_sizeOf ((S 122 b.toInt.toNat) &&& (S 164 a.toInt.toNat)))), (0, .ref 100), (1, .int a), (2, .int b), (3, .int i)] [] S R _
      refine u_st rfl (fun _ => rfl) ?_
      show u_P L xs n d m_X12_isLiked 64 [(5, .int (f_X12_sizeOf ((S 122 i.toInt.toNat) &&& (S 164 a.toInt.toNat)))), (4, .int (f_X12_sizeOf ((S 122 b.toInt.toNat) &&& (S 164 a.toInt.toNat)))), (0, .ref 100), (1, .int a), (2, .int b), (3, .int i)] [.ref 100] S R _
      refine u_getr rfl v_tyM rfl ?_
      refine u_st rfl (fun _ => rfl) ?_
      show u_P L xs n d m_X12_isLiked 68 [(5, .int (f_X12_sizeOf ((S 122 i.toInt.toNat) &&& (S 164 a.toInt.toNat)))), (4, .int (f_X12_sizeOf ((S 122 b.toInt.toNat) &&& (S 164 a.toInt.toNat)))), (0, .ref 100), (1, .int a), (2, .int b), (3, .int i)] [.int b, .ref 118] S R _
      refine u_ialdE (v := S 117 b.toInt.toNat) rfl rfl rfl (fun b71 b72 => ?_)
      refine u_st rfl (fun _ => rfl) ?_
      show u_P L xs n d m_X12_isLiked 70 [(5, .int (f_X12_sizeOf ((S 122 i.toInt.toNat) &&& (S 164 a.toInt.toNat)))), (4, .int (f_X12_sizeOf ((S 122 b.toInt.toNat) &&& (S 164 a.toInt.toNat)))), (0, .ref 100), (1, .int a), (2, .int b), (3, .int i)] [.ref 100, .int (S 117 b.toInt.toNat)] S R _
      refine u_getr rfl v_tyM rfl ?_
      refine u_st rfl (fun _ => rfl) ?_
      show u_P L xs n d m_X12_isLiked 74 [(5, .int (f_X12_sizeOf ((S 122 i.toInt.toNat) &&& (S 164 a.toInt.toNat)))), (4, .int (f_X12_sizeOf ((S 122 b.toInt.toNat) &&& (S 164 a.toInt.toNat)))), (0, .ref 100), (1, .int a), (2, .int b), (3, .int i)] [.int i, .ref 118, .int (S 117 b.toInt.toNat)] S R _
      refine u_ialdE (v := S 117 i.toInt.toNat) rfl rfl rfl (fun b81 b82 => ?_)
      show u_P L xs n d m_X12_isLiked 75 [(5, .int (f_X12_sizeOf ((S 122 i.toInt.toNat) &&& (S 164 a.toInt.toNat)))), (4, .int (f_X12_sizeOf ((S 122 b.toInt.toNat) &&& (S 164 a.toInt.toNat)))), (0, .ref 100), (1, .int a), (2, .int b), (3, .int i)] [.int (S 117 i.toInt.toNat), .int (S 117 b.toInt.toNat)] S R _
      refine u_ic_eq rfl (fun h9 => ?_) (fun h9 => ?_)
      · show u_P L xs n d m_X12_isLiked 101 [(5, .int (f_X12_sizeOf ((S 122 i.toInt.toNat) &&& (S 164 a.toInt.toNat)))), (4, .int (f_X12_sizeOf ((S 122 b.toInt.toNat) &&& (S 164 a.toInt.toNat)))), (0, .ref 100), (1, .int a), (2, .int b), (3, .int i)] [] S R _
        refine u_st rfl (fun _ => rfl) ?_
        refine u_st rfl (fun _ => rfl) ?_
        show u_P L xs n d m_X12_isLiked 103 [(5, .int (f_X12_sizeOf ((S 122 i.toInt.toNat) &&& (S 164 a.toInt.toNat)))), (4, .int (f_X12_sizeOf ((S 122 b.toInt.toNat) &&& (S 164 a.toInt.toNat)))), (0, .ref 100), (1, .int a), (2, .int b), (3, .int i)] [.int i, .int b] S R _
        refine u_ic_ge rfl (fun h10 => ?_) (fun h10 => ?_)
        · show u_P L xs n d m_X12_isLiked 110 [(5, .int (f_X12_sizeOf ((S 122 i.toInt.toNat) &&& (S 164 a.toInt.toNat)))), (4, .int (f_X12_sizeOf ((S 122 b.toInt.toNat) &&& (S 164 a.toInt.toNat)))), (0, .ref 100), (1, .int a), (2, .int b), (3, .int i)] [] S R _
          refine u_st rfl (fun _ => rfl) ?_
          show u_P L xs n d m_X12_isLiked 111 [(5, .int (f_X12_sizeOf ((S 122 i.toInt.toNat) &&& (S 164 a.toInt.toNat)))), (4, .int (f_X12_sizeOf ((S 122 b.toInt.toNat) &&& (S 164 a.toInt.toNat)))), (0, .ref 100), (1, .int a), (2, .int b), (3, .int i)] [.int (Int32.ofInt 0)] S R _
          exact u_retb rfl rfl ⟨_, rfl, rfl, by rw [f_X12_isLiked, if_pos h1, if_pos h6, if_pos h9, if_pos h10], rfl⟩
        · show u_P L xs n d m_X12_isLiked 106 [(5, .int (f_X12_sizeOf ((S 122 i.toInt.toNat) &&& (S 164 a.toInt.toNat)))), (4, .int (f_X12_sizeOf ((S 122 b.toInt.toNat) &&& (S 164 a.toInt.toNat)))), (0, .ref 100), (1, .int a), (2, .int b), (3, .int i)] [] S R _
          refine u_st rfl (fun _ => rfl) ?_
          refine u_st rfl (fun _ => rfl) ?_
          show u_P L xs n d m_X12_isLiked 111 [(5, .int (f_X12_sizeOf ((S 122 i.toInt.toNat) &&& (S 164 a.toInt.toNat)))), (4, .int (f_X12_sizeOf ((S 122 b.toInt.toNat) &&& (S 164 a.toInt.toNat)))), (0, .ref 100), (1, .int a), (2, .int b), (3, .int i)] [.int (Int32.ofInt 1)] S R _
          exact u_retb rfl rfl ⟨_, rfl, rfl, by rw [f_X12_isLiked, if_pos h1, if_pos h6, if_pos h9, if_neg h10], rfl⟩
      · show u_P L xs n d m_X12_isLiked 78 [(5, .int (f_X12_sizeOf ((S 122 i.toInt.toNat) &&& (S 164 a.toInt.toNat)))), (4, .int (f_X12_sizeOf ((S 122 b.toInt.toNat) &&& (S 164 a.toInt.toNat)))), (0, .ref 100), (1, .int a), (2, .int b), (3, .int i)] [] S R _
        refine u_st rfl (fun _ => rfl) ?_
        show u_P L xs n d m_X12_isLiked 79 [(5, .int (f_X12_sizeOf ((S 122 i.toInt.toNat) &&& (S 164 a.toInt.toNat)))), (4, .int (f_X12_sizeOf ((S 122 b.toInt.toNat) &&& (S 164 a.toInt.toNat)))), (0, .ref 100), (1, .int a), (2, .int b), (3, .int i)] [.ref 100] S R _
        refine u_getr rfl v_tyM rfl ?_
        refine u_st rfl (fun _ => rfl) ?_
        show u_P L xs n d m_X12_isLiked 83 [(5, .int (f_X12_sizeOf ((S 122 i.toInt.toNat) &&& (S 164 a.toInt.toNat)))), (4, .int (f_X12_sizeOf ((S 122 b.toInt.toNat) &&& (S 164 a.toInt.toNat)))), (0, .ref 100), (1, .int a), (2, .int b), (3, .int i)] [.int b, .ref 118] S R _
        refine u_ialdE (v := S 117 b.toInt.toNat) rfl rfl rfl (fun b111 b112 => ?_)
        refine u_st rfl (fun _ => rfl) ?_
        show u_P L xs n d m_X12_isLiked 85 [(5, .int (f_X12_sizeOf ((S 122 i.toInt.toNat) &&& (S 164 a.toInt.toNat)))), (4, .int (f_X12_sizeOf ((S 122 b.toInt.toNat) &&& (S 164 a.toInt.toNat)))), (0, .ref 100), (1, .int a), (2, .int b), (3, .int i)] [.ref 100, .int (S 117 b.toInt.toNat)] S R _
        refine u_getr rfl v_tyM rfl ?_
        refine u_st rfl (fun _ => rfl) ?_
        show u_P L xs n d m_X12_isLiked 89 [(5, .int (f_X12_sizeOf ((S 122 i.toInt.toNat) &&& (S 164 a.toInt.toNat)))), (4, .int (f_X12_sizeOf ((S 122 b.toInt.toNat) &&& (S 164 a.toInt.toNat)))), (0, .ref 100), (1, .int a), (2, .int b), (3, .int i)] [.int i, .ref 118, .int (S 117 b.toInt.toNat)] S R _
        refine u_ialdE (v := S 117 i.toInt.toNat) rfl rfl rfl (fun b121 b122 => ?_)
        show u_P L xs n d m_X12_isLiked 90 [(5, .int (f_X12_sizeOf ((S 122 i.toInt.toNat) &&& (S 164 a.toInt.toNat)))), (4, .int (f_X12_sizeOf ((S 122 b.toInt.toNat) &&& (S 164 a.toInt.toNat)))), (0, .ref 100), (1, .int a), (2, .int b), (3, .int i)] [.int (S 117 i.toInt.toNat), .int (S 117 b.toInt.toNat)] S R _
        refine u_ic_le rfl (fun h13 => ?_) (fun h13 => ?_)
        · show u_P L xs n d m_X12_isLiked 97 [(5, .int (f_X12_sizeOf ((S 122 i.toInt.toNat) &&& (S 164 a.toInt.toNat)))), (4, .int (f_X12_sizeOf ((S 122 b.toInt.toNat) &&& (S 164 a.toInt.toNat)))), (0, .ref 100), (1, .int a), (2, .int b), (3, .int i)] [] S R _
          refine u_st rfl (fun _ => rfl) ?_
          refine u_st rfl (fun _ => rfl) ?_
          show u_P L xs n d m_X12_isLiked 111 [(5, .int (f_X12_sizeOf ((S 122 i.toInt.toNat) &&& (S 164 a.toInt.toNat)))), (4, .int (f_X12_sizeOf ((S 122 b.toInt.toNat) &&& (S 164 a.toInt.toNat)))), (0, .ref 100), (1, .int a), (2, .int b), (3, .int i)] [.int (Int32.ofInt 0)] S R _
          exact u_retb rfl rfl ⟨_, rfl, rfl, by rw [f_X12_isLiked, if_pos h1, if_pos h6, if_neg h9, if_pos h13], rfl⟩
        · show u_P L xs n d m_X12_isLiked 93 [(5, .int (f_X12_sizeOf ((S 122 i.toInt.toNat) &&& (S 164 a.toInt.toNat)))), (4, .int (f_X12_sizeOf ((S 122 b.toInt.toNat) &&& (S 164 a.toInt.toNat)))), (0, .ref 100), (1, .int a), (2, .int b), (3, .int i)] [] S R _
          refine u_st rfl (fun _ => rfl) ?_
          refine u_st rfl (fun _ => rfl) ?_
          show u_P L xs n d m_X12_isLiked 111 [(5, .int (f_X12_sizeOf ((S 122 i.toInt.toNat) &&& (S 164 a.toInt.toNat)))), (4, .int (f_X12_sizeOf ((S 122 b.toInt.toNat) &&& (S 164 a.toInt.toNat)))), (0, .ref 100), (1, .int a), (2, .int b), (3, .int i)] [.int (Int32.ofInt 1)] S R _
          exact u_retb rfl rfl ⟨_, rfl, rfl, by rw [f_X12_isLiked, if_pos h1, if_pos h6, if_neg h9, if_neg h13], rfl⟩
    · show u_P L xs n d m_X12_isLiked 50 [(5, .int (f_X12_sizeOf ((S 122 i.toInt.toNat) &&& (S 164 a.toInt.toNat)))), (4, .int (f_X12_sizeOf ((S 122 b.toInt.toNat) &&& (S 164 a.toInt.toNat)))), (0, .ref 100), (1, .int a), (2, .int b), (3, .int i)] [] S R _
      refine u_st rfl (fun _ => rfl) ?_
      refine u_st rfl (fun _ => rfl) ?_
      show u_P L xs n d m_X12_isLiked 54 [(5, .int (f_X12_sizeOf ((S 122 i.toInt.toNat) &&& (S 164 a.toInt.toNat)))), (4, .int (f_X12_sizeOf ((S 122 b.toInt.toNat) &&& (S 164 a.toInt.toNat)))), (0, .ref 100), (1, .int a), (2, .int b), (3, .int i)] [.int (f_X12_sizeOf ((S 122 i.toInt.toNat) &&& (S 164 a.toInt.toNat))), .int (f_X12_sizeOf ((S 122 b.toInt.toNat) &&& (S 164 a.toInt.toNat)))] S R _
      refine u_ic_le rfl (fun h14 => ?_) (fun h14 => ?_)
      · show u_P L xs n d m_X12_isLiked 61 [(5, .int (f_X12_sizeOf ((S 122 i.toInt.toNat) &&& (S 164 a.toInt.toNat)))), (4, .int (f_X12_sizeOf ((S 122 b.toInt.toNat) &&& (S 164 a.toInt.toNat)))), (0, .ref 100), (1, .int a), (2, .int b), (3, .int i)] [] S R _
        refine u_st rfl (fun _ => rfl) ?_
        show u_P L xs n d m_X12_isLiked 62 [(5, .int (f_X12_sizeOf ((S 122 i.toInt.toNat) &&& (S 164 a.toInt.toNat)))), (4, .int (f_X12_sizeOf ((S 122 b.toInt.toNat) &&& (S 164 a.toInt.toNat)))), (0, .ref 100), (1, .int a), (2, .int b), (3, .int i)] [.int (Int32.ofInt 0)] S R _
        exact u_retb rfl rfl ⟨_, rfl, rfl, by rw [f_X12_isLiked, if_pos h1, if_neg h6, if_pos h14], rfl⟩
      · show u_P L xs n d m_X12_isLiked 57 [(5, .int (f_X12_sizeOf ((S 122 i.toInt.toNat) &&& (S 164 a.toInt.toNat)))), (4, .int (f_X12_sizeOf ((S 122 b.toInt.toNat) &&& (S 164 a.toInt.toNat)))), (0, .ref 100), (1, .int a), (2, .int b), (3, .int i)] [] S R _
        refine u_st rfl (fun _ => rfl) ?_
        refine u_st rfl (fun _ => rfl) ?_
        show u_P L xs n d m_X12_isLiked 62 [(5, .int (f_X12_sizeOf ((S 122 i.toInt.toNat) &&& (S 164 a.toInt.toNat)))), (4, .int (f_X12_sizeOf ((S 122 b.toInt.toNat) &&& (S 164 a.toInt.toNat)))), (0, .ref 100), (1, .int a), (2, .int b), (3, .int i)] [.int (Int32.ofInt 1)] S R _
        exact u_retb rfl rfl ⟨_, rfl, rfl, by rw [f_X12_isLiked, if_pos h1, if_neg h6, if_neg h14], rfl⟩
  · show u_P L xs n d m_X12_isLiked 5 [(0, .ref 100), (1, .int a), (2, .int b), (3, .int i)] [] S R _
    refine u_st rfl (fun _ => rfl) ?_
    show u_P L xs n d m_X12_isLiked 6 [(0, .ref 100), (1, .int a), (2, .int b), (3, .int i)] [.int (Int32.ofInt 1)] S R _
    exact u_retb rfl rfl ⟨_, rfl, rfl, by rw [f_X12_isLiked, if_neg h1], rfl⟩
noncomputable def D_X12_fair_37  (H37 : Int32 → Int32 → v_Sf → Prop) (H57 : Int32 → Int32 → v_Sf → Prop) (H134 : Int32 → Int32 → Int32 → v_Sf → Prop) (H167 : Int32 → Int32 → Int32 → Int32 → Int32 → v_Sf → Prop) (K : Int32 → v_Sf → Prop) (x2 : Int32) (x3 : Int32) (S : v_Sf) : Prop := (((Int32.ofInt 5) ≤ x3 → H57 x2 (Int32.ofInt 0) S) ∧ (¬ ((Int32.ofInt 5) ≤ x3) → (0 ≤ x3.toInt → x3.toInt < 5 → H37 x2 (x3 + (Int32.ofInt 1)) (z_s S 165 x3.toInt.toNat (Int32.ofInt (-1))))))
noncomputable def D_X12_fair_57  (H37 : Int32 → Int32 → v_Sf → Prop) (H57 : Int32 → Int32 → v_Sf → Prop) (H134 : Int32 → Int32 → Int32 → v_Sf → Prop) (H167 : Int32 → Int32 → Int32 → Int32 → Int32 → v_Sf → Prop) (K : Int32 → v_Sf → Prop) (x2 : Int32) (x3 : Int32) (S : v_Sf) : Prop := ((x2 ≤ x3 → H134 x2 (Int32.ofInt 0) (Int32.ofInt 0) S) ∧ (¬ (x2 ≤ x3) → (((¬ (f_X12_byteAt x3 S) = (Int32.ofInt 255)) → (((Int32.ofInt 5) ≤ (f_X12_byteAt x3 S) → K (Int32.ofInt (-2)) S) ∧ (¬ ((Int32.ofInt 5) ≤ (f_X12_byteAt x3 S)) → (0 ≤ (f_X12_byteAt x3 S).toInt → (f_X12_byteAt x3 S).toInt < 5 → (((S 162 ((f_X12_byteAt x3 S).toInt.toNat)) = 0 → K (Int32.ofInt (-2)) S) ∧ (¬ ((S 162 ((f_X12_byteAt x3 S).toInt.toNat)) = 0) → (0 ≤ (f_X12_byteAt x3 S).toInt → (f_X12_byteAt x3 S).toInt < 5 → (((S 165 ((f_X12_byteAt x3 S).toInt.toNat)) = (Int32.ofInt (-1)) → (0 ≤ x3.toInt → x3.toInt < 12 → (0 ≤ (f_X12_byteAt x3 S).toInt → (f_X12_byteAt x3 S).toInt < 5 → H57 x2 (x3 + (Int32.ofInt 1)) (z_s S 165 ((f_X12_byteAt x3 S).toInt.toNat) (S 152 x3.toInt.toNat))))) ∧ (¬ ((S 165 ((f_X12_byteAt x3 S).toInt.toNat)) = (Int32.ofInt (-1))) → K (Int32.ofInt (-2)) S))))))))) ∧ (¬ (¬ (f_X12_byteAt x3 S) = (Int32.ofInt 255)) → H57 x2 (x3 + (Int32.ofInt 1)) S))))
noncomputable def D_X12_fair_134  (H37 : Int32 → Int32 → v_Sf → Prop) (H57 : Int32 → Int32 → v_Sf → Prop) (H134 : Int32 → Int32 → Int32 → v_Sf → Prop) (H167 : Int32 → Int32 → Int32 → Int32 → Int32 → v_Sf → Prop) (K : Int32 → v_Sf → Prop) (x2 : Int32) (x3 : Int32) (x4 : Int32) (S : v_Sf) : Prop := ((x2 ≤ x4 → K x3 S) ∧ (¬ (x2 ≤ x4) → (((¬ (f_X12_byteAt x4 S) = (Int32.ofInt 255)) → H167 x2 x3 x4 (f_X12_byteAt x4 S) (Int32.ofInt 0) S) ∧ (¬ (¬ (f_X12_byteAt x4 S) = (Int32.ofInt 255)) → H167 x2 x3 x4 (Int32.ofInt (-1)) (Int32.ofInt 0) S))))
noncomputable def D_X12_fair_167  (H37 : Int32 → Int32 → v_Sf → Prop) (H57 : Int32 → Int32 → v_Sf → Prop) (H134 : Int32 → Int32 → Int32 → v_Sf → Prop) (H167 : Int32 → Int32 → Int32 → Int32 → Int32 → v_Sf → Prop) (K : Int32 → v_Sf → Prop) (x2 : Int32) (x3 : Int32) (x4 : Int32) (x5 : Int32) (x6 : Int32) (S : v_Sf) : Prop := (((Int32.ofInt 5) ≤ x6 → H134 x2 x3 (x4 + (Int32.ofInt 1)) S) ∧ (¬ ((Int32.ofInt 5) ≤ x6) → (0 ≤ x6.toInt → x6.toInt < 5 → (((S 162 x6.toInt.toNat) = 0 → H167 x2 x3 x4 x5 (x6 + (Int32.ofInt 1)) S) ∧ (¬ ((S 162 x6.toInt.toNat) = 0) → ((x6 = x5 → H167 x2 x3 x4 x5 (x6 + (Int32.ofInt 1)) S) ∧ (¬ (x6 = x5) → (((f_X12_isHigher x6 x5 S) = 0 → H167 x2 x3 x4 x5 (x6 + (Int32.ofInt 1)) S) ∧ (¬ ((f_X12_isHigher x6 x5 S) = 0) → (0 ≤ x4.toInt → x4.toInt < 12 → (0 ≤ x6.toInt → x6.toInt < 5 → (((f_X12_isLiked x6 (S 152 x4.toInt.toNat) (S 165 x6.toInt.toNat) S) = 0 → H167 x2 x3 x4 x5 (x6 + (Int32.ofInt 1)) S) ∧ (¬ ((f_X12_isLiked x6 (S 152 x4.toInt.toNat) (S 165 x6.toInt.toNat) S) = 0) → H167 x2 (x3 + (Int32.ofInt 1)) x4 x5 (x6 + (Int32.ofInt 1)) S)))))))))))))
noncomputable def D_X12_fair (a : Int32) (H37 : Int32 → Int32 → v_Sf → Prop) (H57 : Int32 → Int32 → v_Sf → Prop) (H134 : Int32 → Int32 → Int32 → v_Sf → Prop) (H167 : Int32 → Int32 → Int32 → Int32 → Int32 → v_Sf → Prop) (K : Int32 → v_Sf → Prop) (S : v_Sf) : Prop := (((f_X12_areGusts a (Int32.ofInt 1) (Int32.ofInt 6) S) = 0 → K (Int32.ofInt (-1)) S) ∧ (¬ ((f_X12_areGusts a (Int32.ofInt 1) (Int32.ofInt 6) S) = 0) → (((f_X12_sizeOf a) ≤ (S 99 1) → H37 (f_X12_takesSome a S) (Int32.ofInt 0) (z_s (g_X12_takesSome a S) 99 1 (Int32.ofInt 0))) ∧ (¬ ((f_X12_sizeOf a) ≤ (S 99 1)) → K (Int32.ofInt (-1)) S))))
set_option maxRecDepth 4000 in
theorem hd_X12_fair (L : Nat) (xs : Nat → Int32) {R : v_Rf} (a : Int32) (H37 : Int32 → Int32 → v_Sf → Prop) (H57 : Int32 → Int32 → v_Sf → Prop) (H134 : Int32 → Int32 → Int32 → v_Sf → Prop) (H167 : Int32 → Int32 → Int32 → Int32 → Int32 → v_Sf → Prop) (K : Int32 → v_Sf → Prop) (k37 : ∀ (x2 : Int32) (x3 : Int32) (S : v_Sf), H37 x2 x3 S → D_X12_fair_37 H37 H57 H134 H167 K x2 x3 S) (k57 : ∀ (x2 : Int32) (x3 : Int32) (S : v_Sf), H57 x2 x3 S → D_X12_fair_57 H37 H57 H134 H167 K x2 x3 S) (k134 : ∀ (x2 : Int32) (x3 : Int32) (x4 : Int32) (S : v_Sf), H134 x2 x3 x4 S → D_X12_fair_134 H37 H57 H134 H167 K x2 x3 x4 S) (k167 : ∀ (x2 : Int32) (x3 : Int32) (x4 : Int32) (x5 : Int32) (x6 : Int32) (S : v_Sf), H167 x2 x3 x4 x5 x6 S → D_X12_fair_167 H37 H57 H134 H167 K x2 x3 x4 x5 x6 S) : ∀ n, (∀ (d : Nat) (j1 : Int32) (x2 : Int32) (x3 : Int32) (S : v_Sf), H37 x2 x3 S → u_P L xs n d m_X12_fair 37 [(0, .ref 100), (1, .int j1), (2, .int x2), (3, .int x3)] [] S R (z_Q R K)) ∧ (∀ (d : Nat) (j1 : Int32) (x2 : Int32) (x3 : Int32) (S : v_Sf), H57 x2 x3 S → u_P L xs n d m_X12_fair 57 [(0, .ref 100), (1, .int j1), (2, .int x2), (3, .int x3)] [] S R (z_Q R K)) ∧ (∀ (d : Nat) (j1 : Int32) (j4 : Int32) (x2 : Int32) (x3 : Int32) (S : v_Sf), H57 x2 x3 S → u_P L xs n d m_X12_fair 57 [(0, .ref 100), (1, .int j1), (2, .int x2), (3, .int x3), (4, .int j4)] [] S R (z_Q R K)) ∧ (∀ (d : Nat) (j1 : Int32) (x2 : Int32) (x3 : Int32) (x4 : Int32) (S : v_Sf), H134 x2 x3 x4 S → u_P L xs n d m_X12_fair 134 [(0, .ref 100), (1, .int j1), (2, .int x2), (3, .int x3), (4, .int x4)] [] S R (z_Q R K)) ∧ (∀ (d : Nat) (j1 : Int32) (j5 : Int32) (j6 : Int32) (x2 : Int32) (x3 : Int32) (x4 : Int32) (S : v_Sf), H134 x2 x3 x4 S → u_P L xs n d m_X12_fair 134 [(0, .ref 100), (1, .int j1), (2, .int x2), (3, .int x3), (4, .int x4), (5, .int j5), (6, .int j6)] [] S R (z_Q R K)) ∧ (∀ (d : Nat) (j1 : Int32) (x2 : Int32) (x3 : Int32) (x4 : Int32) (x5 : Int32) (x6 : Int32) (S : v_Sf), H167 x2 x3 x4 x5 x6 S → u_P L xs n d m_X12_fair 167 [(0, .ref 100), (1, .int j1), (2, .int x2), (3, .int x3), (4, .int x4), (5, .int x5), (6, .int x6)] [] S R (z_Q R K)) := by
  intro n
  induction n using Nat.strongRecOn with
  | ind n ih =>
    refine ⟨?_, ?_, ?_, ?_, ?_, ?_⟩
    · intro d j1 x2 x3 S hD
      have hD := k37 x2 x3 S hD
      unfold D_X12_fair_37 at hD
      show u_P L xs n d m_X12_fair 37 [(0, .ref 100), (1, .int j1), (2, .int x2), (3, .int x3)] [] S R _
      refine u_st1 rfl (fun _ => rfl) (fun m hm => ?_)
      refine u_st rfl (fun _ => rfl) ?_
      show u_P L xs m d m_X12_fair 39 [(0, .ref 100), (1, .int j1), (2, .int x2), (3, .int x3)] [.int (Int32.ofInt 5), .int x3] S R _
      refine u_ic_ge rfl (fun h1 => ?_) (fun h1 => ?_)
      · have hD := hD.1 h1
        show u_P L xs m d m_X12_fair 55 [(0, .ref 100), (1, .int j1), (2, .int x2), (3, .int x3)] [] S R _
        refine u_st rfl (fun _ => rfl) ?_
        refine u_st rfl (fun _ => rfl) ?_
        refine u_lc (b := [(0, .ref 100), (1, .int j1), (2, .int x2), (3, .int (Int32.ofInt 0))]) (show ([3, 0, 1, 2] : List Nat).Nodup by decide) (show ([0, 1, 2, 3] : List Nat).Nodup by decide) (fun i => match i with | 0 => rfl | 1 => rfl | 2 => rfl | 3 => rfl | _ + 4 => rfl) ?_
        exact (ih m hm).2.1 d j1 x2 (Int32.ofInt 0) S hD
      · have hD := hD.2 h1
        show u_P L xs m d m_X12_fair 42 [(0, .ref 100), (1, .int j1), (2, .int x2), (3, .int x3)] [] S R _
        refine u_st rfl (fun _ => rfl) ?_
        show u_P L xs m d m_X12_fair 43 [(0, .ref 100), (1, .int j1), (2, .int x2), (3, .int x3)] [.ref 100] S R _
        refine u_getr rfl v_tyM rfl ?_
        refine u_st rfl (fun _ => rfl) ?_
        refine u_st rfl (fun _ => rfl) ?_
        show u_P L xs m d m_X12_fair 48 [(0, .ref 100), (1, .int j1), (2, .int x2), (3, .int x3)] [.int (Int32.ofInt (-1)), .int x3, .ref 166] S R _
        refine u_iast rfl rfl (fun b21 b22 => ?_)
        have hD := hD b21 b22
        show u_P L xs m d m_X12_fair 49 [(0, .ref 100), (1, .int j1), (2, .int x2), (3, .int x3)] [] (z_s S 165 x3.toInt.toNat (Int32.ofInt (-1))) R _
        refine u_st rfl (fun _ => rfl) ?_
        refine u_st rfl (fun _ => rfl) ?_
        refine u_lc (b := [(0, .ref 100), (1, .int j1), (2, .int x2), (3, .int (x3 + (Int32.ofInt 1)))]) (show ([3, 0, 1, 2] : List Nat).Nodup by decide) (show ([0, 1, 2, 3] : List Nat).Nodup by decide) (fun i => match i with | 0 => rfl | 1 => rfl | 2 => rfl | 3 => rfl | _ + 4 => rfl) ?_
        exact (ih m hm).1 d j1 x2 (x3 + (Int32.ofInt 1)) (z_s S 165 x3.toInt.toNat (Int32.ofInt (-1))) hD
    · intro d j1 x2 x3 S hD
      have hD := k57 x2 x3 S hD
      unfold D_X12_fair_57 at hD
      show u_P L xs n d m_X12_fair 57 [(0, .ref 100), (1, .int j1), (2, .int x2), (3, .int x3)] [] S R _
      refine u_st1 rfl (fun _ => rfl) (fun m hm => ?_)
      refine u_st rfl (fun _ => rfl) ?_
      show u_P L xs m d m_X12_fair 59 [(0, .ref 100), (1, .int j1), (2, .int x2), (3, .int x3)] [.int x2, .int x3] S R _
      refine u_ic_ge rfl (fun h1 => ?_) (fun h1 => ?_)
      · have hD := hD.1 h1
        show u_P L xs m d m_X12_fair 129 [(0, .ref 100), (1, .int j1), (2, .int x2), (3, .int x3)] [] S R _
        refine u_st rfl (fun _ => rfl) ?_
        refine u_st rfl (fun _ => rfl) ?_
        refine u_st rfl (fun _ => rfl) ?_
        refine u_st rfl (fun _ => rfl) ?_
        refine u_lc (b := [(0, .ref 100), (1, .int j1), (2, .int x2), (3, .int (Int32.ofInt 0)), (4, .int (Int32.ofInt 0))]) (show ([4, 3, 0, 1, 2] : List Nat).Nodup by decide) (show ([0, 1, 2, 3, 4] : List Nat).Nodup by decide) (fun i => match i with | 0 => rfl | 1 => rfl | 2 => rfl | 3 => rfl | 4 => rfl | _ + 5 => rfl) ?_
        exact (ih m hm).2.2.2.1 d j1 x2 (Int32.ofInt 0) (Int32.ofInt 0) S hD
      · have hD := hD.2 h1
        show u_P L xs m d m_X12_fair 62 [(0, .ref 100), (1, .int j1), (2, .int x2), (3, .int x3)] [] S R _
        refine u_st rfl (fun _ => rfl) ?_
        refine u_st rfl (fun _ => rfl) ?_
        show u_P L xs m d m_X12_fair 64 [(0, .ref 100), (1, .int j1), (2, .int x2), (3, .int x3)] [.int x3, .ref 100] S R _
        refine u_cv (rest := []) rfl (by decide) mt_X12_byteAt v_tyM rfl rfl rfl (Nat.le_of_ble_eq_true rfl) (Nat.le_of_ble_eq_true rfl) (Nat.le_of_ble_eq_true rfl) (fun d' => c_X12_byteAt L xs m d' x3 S R) ?_
        rintro _ _ _ ⟨_, rfl, rfl, rfl, rfl⟩
        refine u_st rfl (fun _ => rfl) ?_
        refine u_st rfl (fun _ => rfl) ?_
        refine u_st rfl (fun _ => rfl) ?_
        show u_P L xs m d m_X12_fair 74 [(4, .int (f_X12_byteAt x3 S)), (0, .ref 100), (1, .int j1), (2, .int x2), (3, .int x3)] [.int (Int32.ofInt 255), .int (f_X12_byteAt x3 S)] S R _
        refine u_ic_ne rfl (fun h2 => ?_) (fun h2 => ?_)
        · have hD := hD.1 h2
          show u_P L xs m d m_X12_fair 80 [(4, .int (f_X12_byteAt x3 S)), (0, .ref 100), (1, .int j1), (2, .int x2), (3, .int x3)] [] S R _
          refine u_st rfl (fun _ => rfl) ?_
          refine u_st rfl (fun _ => rfl) ?_
          show u_P L xs m d m_X12_fair 83 [(4, .int (f_X12_byteAt x3 S)), (0, .ref 100), (1, .int j1), (2, .int x2), (3, .int x3)] [.int (Int32.ofInt 5), .int (f_X12_byteAt x3 S)] S R _
          refine u_ic_ge rfl (fun h3 => ?_) (fun h3 => ?_)
          · have hD := hD.1 h3
            show u_P L xs m d m_X12_fair 107 [(4, .int (f_X12_byteAt x3 S)), (0, .ref 100), (1, .int j1), (2, .int x2), (3, .int x3)] [] S R _
            refine u_st rfl (fun _ => rfl) ?_
            show u_P L xs m d m_X12_fair 109 [(4, .int (f_X12_byteAt x3 S)), (0, .ref 100), (1, .int j1), (2, .int x2), (3, .int x3)] [.int (Int32.ofInt (-2))] S R _
            exact u_ret rfl rfl ⟨_, rfl, rfl, hD⟩
          · have hD := hD.2 h3
            show u_P L xs m d m_X12_fair 86 [(4, .int (f_X12_byteAt x3 S)), (0, .ref 100), (1, .int j1), (2, .int x2), (3, .int x3)] [] S R _
            refine u_st rfl (fun _ => rfl) ?_
            show u_P L xs m d m_X12_fair 87 [(4, .int (f_X12_byteAt x3 S)), (0, .ref 100), (1, .int j1), (2, .int x2), (3, .int x3)] [.ref 100] S R _
            refine u_getr rfl v_tyM rfl ?_
            refine u_st rfl (fun _ => rfl) ?_
            show u_P L xs m d m_X12_fair 92 [(4, .int (f_X12_byteAt x3 S)), (0, .ref 100), (1, .int j1), (2, .int x2), (3, .int x3)] [.int (f_X12_byteAt x3 S), .ref 163] S R _
            refine u_baldE (v := S 162 ((f_X12_byteAt x3 S).toInt.toNat)) rfl rfl (by decide) rfl (fun b41 b42 => ?_)
            have hD := hD b41 b42
            show u_P L xs m d m_X12_fair 93 [(4, .int (f_X12_byteAt x3 S)), (0, .ref 100), (1, .int j1), (2, .int x2), (3, .int x3)] [.int (S 162 ((f_X12_byteAt x3 S).toInt.toNat))] S R _
            refine u_if_eq rfl (fun h5 => ?_) (fun h5 => ?_)
            · have hD := hD.1 h5
              show u_P L xs m d m_X12_fair 107 [(4, .int (f_X12_byteAt x3 S)), (0, .ref 100), (1, .int j1), (2, .int x2), (3, .int x3)] [] S R _
              refine u_st rfl (fun _ => rfl) ?_
              show u_P L xs m d m_X12_fair 109 [(4, .int (f_X12_byteAt x3 S)), (0, .ref 100), (1, .int j1), (2, .int x2), (3, .int x3)] [.int (Int32.ofInt (-2))] S R _
              exact u_ret rfl rfl ⟨_, rfl, rfl, hD⟩
            · have hD := hD.2 h5
              show u_P L xs m d m_X12_fair 96 [(4, .int (f_X12_byteAt x3 S)), (0, .ref 100), (1, .int j1), (2, .int x2), (3, .int x3)] [] S R _
              refine u_st rfl (fun _ => rfl) ?_
              show u_P L xs m d m_X12_fair 97 [(4, .int (f_X12_byteAt x3 S)), (0, .ref 100), (1, .int j1), (2, .int x2), (3, .int x3)] [.ref 100] S R _
              refine u_getr rfl v_tyM rfl ?_
              refine u_st rfl (fun _ => rfl) ?_
              show u_P L xs m d m_X12_fair 102 [(4, .int (f_X12_byteAt x3 S)), (0, .ref 100), (1, .int j1), (2, .int x2), (3, .int x3)] [.int (f_X12_byteAt x3 S), .ref 166] S R _
              refine u_ialdE (v := S 165 ((f_X12_byteAt x3 S).toInt.toNat)) rfl rfl rfl (fun b61 b62 => ?_)
              have hD := hD b61 b62
              show u_P L xs m d m_X12_fair 103 [(4, .int (f_X12_byteAt x3 S)), (0, .ref 100), (1, .int j1), (2, .int x2), (3, .int x3)] [.int (S 165 ((f_X12_byteAt x3 S).toInt.toNat))] S R _
              refine u_st rfl (fun _ => rfl) ?_
              show u_P L xs m d m_X12_fair 104 [(4, .int (f_X12_byteAt x3 S)), (0, .ref 100), (1, .int j1), (2, .int x2), (3, .int x3)] [.int (Int32.ofInt (-1)), .int (S 165 ((f_X12_byteAt x3 S).toInt.toNat))] S R _
              refine u_ic_eq rfl (fun h7 => ?_) (fun h7 => ?_)
              · have hD := hD.1 h7
                show u_P L xs m d m_X12_fair 110 [(4, .int (f_X12_byteAt x3 S)), (0, .ref 100), (1, .int j1), (2, .int x2), (3, .int x3)] [] S R _
                refine u_st rfl (fun _ => rfl) ?_
                show u_P L xs m d m_X12_fair 111 [(4, .int (f_X12_byteAt x3 S)), (0, .ref 100), (1, .int j1), (2, .int x2), (3, .int x3)] [.ref 100] S R _
                refine u_getr rfl v_tyM rfl ?_
                refine u_st rfl (fun _ => rfl) ?_
                refine u_st rfl (fun _ => rfl) ?_
                show u_P L xs m d m_X12_fair 117 [(4, .int (f_X12_byteAt x3 S)), (0, .ref 100), (1, .int j1), (2, .int x2), (3, .int x3)] [.ref 100, .int (f_X12_byteAt x3 S), .ref 166] S R _
                refine u_getr rfl v_tyM rfl ?_
                refine u_st rfl (fun _ => rfl) ?_
                show u_P L xs m d m_X12_fair 121 [(4, .int (f_X12_byteAt x3 S)), (0, .ref 100), (1, .int j1), (2, .int x2), (3, .int x3)] [.int x3, .ref 153, .int (f_X12_byteAt x3 S), .ref 166] S R _
                refine u_ialdE (v := S 152 x3.toInt.toNat) rfl rfl rfl (fun b81 b82 => ?_)
                have hD := hD b81 b82
                show u_P L xs m d m_X12_fair 122 [(4, .int (f_X12_byteAt x3 S)), (0, .ref 100), (1, .int j1), (2, .int x2), (3, .int x3)] [.int (S 152 x3.toInt.toNat), .int (f_X12_byteAt x3 S), .ref 166] S R _
                refine u_iast rfl rfl (fun b91 b92 => ?_)
                have hD := hD b91 b92
                show u_P L xs m d m_X12_fair 123 [(4, .int (f_X12_byteAt x3 S)), (0, .ref 100), (1, .int j1), (2, .int x2), (3, .int x3)] [] (z_s S 165 ((f_X12_byteAt x3 S).toInt.toNat) (S 152 x3.toInt.toNat)) R _
                refine u_st rfl (fun _ => rfl) ?_
                refine u_st rfl (fun _ => rfl) ?_
                refine u_lc (b := [(0, .ref 100), (1, .int j1), (2, .int x2), (3, .int (x3 + (Int32.ofInt 1))), (4, .int (f_X12_byteAt x3 S))]) (show ([3, 4, 0, 1, 2] : List Nat).Nodup by decide) (show ([0, 1, 2, 3, 4] : List Nat).Nodup by decide) (fun i => match i with | 0 => rfl | 1 => rfl | 2 => rfl | 3 => rfl | 4 => rfl | _ + 5 => rfl) ?_
                exact (ih m hm).2.2.1 d j1 (f_X12_byteAt x3 S) x2 (x3 + (Int32.ofInt 1)) (z_s S 165 ((f_X12_byteAt x3 S).toInt.toNat) (S 152 x3.toInt.toNat)) hD
              · have hD := hD.2 h7
                show u_P L xs m d m_X12_fair 107 [(4, .int (f_X12_byteAt x3 S)), (0, .ref 100), (1, .int j1), (2, .int x2), (3, .int x3)] [] S R _
                refine u_st rfl (fun _ => rfl) ?_
                show u_P L xs m d m_X12_fair 109 [(4, .int (f_X12_byteAt x3 S)), (0, .ref 100), (1, .int j1), (2, .int x2), (3, .int x3)] [.int (Int32.ofInt (-2))] S R _
                exact u_ret rfl rfl ⟨_, rfl, rfl, hD⟩
        · have hD := hD.2 h2
          show u_P L xs m d m_X12_fair 77 [(4, .int (f_X12_byteAt x3 S)), (0, .ref 100), (1, .int j1), (2, .int x2), (3, .int x3)] [] S R _
          refine u_st rfl (fun _ => rfl) ?_
          refine u_st rfl (fun _ => rfl) ?_
          refine u_st rfl (fun _ => rfl) ?_
          refine u_lc (b := [(0, .ref 100), (1, .int j1), (2, .int x2), (3, .int (x3 + (Int32.ofInt 1))), (4, .int (f_X12_byteAt x3 S))]) (show ([3, 4, 0, 1, 2] : List Nat).Nodup by decide) (show ([0, 1, 2, 3, 4] : List Nat).Nodup by decide) (fun i => match i with | 0 => rfl | 1 => rfl | 2 => rfl | 3 => rfl | 4 => rfl | _ + 5 => rfl) ?_
          exact (ih m hm).2.2.1 d j1 (f_X12_byteAt x3 S) x2 (x3 + (Int32.ofInt 1)) S hD
    · intro d j1 j4 x2 x3 S hD
      have hD := k57 x2 x3 S hD
      unfold D_X12_fair_57 at hD
      show u_P L xs n d m_X12_fair 57 [(0, .ref 100), (1, .int j1), (2, .int x2), (3, .int x3), (4, .int j4)] [] S R _
      refine u_st1 rfl (fun _ => rfl) (fun m hm => ?_)
      refine u_st rfl (fun _ => rfl) ?_
      show u_P L xs m d m_X12_fair 59 [(0, .ref 100), (1, .int j1), (2, .int x2), (3, .int x3), (4, .int j4)] [.int x2, .int x3] S R _
      refine u_ic_ge rfl (fun h1 => ?_) (fun h1 => ?_)
      · have hD := hD.1 h1
        show u_P L xs m d m_X12_fair 129 [(0, .ref 100), (1, .int j1), (2, .int x2), (3, .int x3), (4, .int j4)] [] S R _
        refine u_st rfl (fun _ => rfl) ?_
        refine u_st rfl (fun _ => rfl) ?_
        refine u_st rfl (fun _ => rfl) ?_
        refine u_st rfl (fun _ => rfl) ?_
        refine u_lc (b := [(0, .ref 100), (1, .int j1), (2, .int x2), (3, .int (Int32.ofInt 0)), (4, .int (Int32.ofInt 0))]) (show ([4, 3, 0, 1, 2] : List Nat).Nodup by decide) (show ([0, 1, 2, 3, 4] : List Nat).Nodup by decide) (fun i => match i with | 0 => rfl | 1 => rfl | 2 => rfl | 3 => rfl | 4 => rfl | _ + 5 => rfl) ?_
        exact (ih m hm).2.2.2.1 d j1 x2 (Int32.ofInt 0) (Int32.ofInt 0) S hD
      · have hD := hD.2 h1
        show u_P L xs m d m_X12_fair 62 [(0, .ref 100), (1, .int j1), (2, .int x2), (3, .int x3), (4, .int j4)] [] S R _
        refine u_st rfl (fun _ => rfl) ?_
        refine u_st rfl (fun _ => rfl) ?_
        show u_P L xs m d m_X12_fair 64 [(0, .ref 100), (1, .int j1), (2, .int x2), (3, .int x3), (4, .int j4)] [.int x3, .ref 100] S R _
        refine u_cv (rest := []) rfl (by decide) mt_X12_byteAt v_tyM rfl rfl rfl (Nat.le_of_ble_eq_true rfl) (Nat.le_of_ble_eq_true rfl) (Nat.le_of_ble_eq_true rfl) (fun d' => c_X12_byteAt L xs m d' x3 S R) ?_
        rintro _ _ _ ⟨_, rfl, rfl, rfl, rfl⟩
        refine u_st rfl (fun _ => rfl) ?_
        refine u_st rfl (fun _ => rfl) ?_
        refine u_st rfl (fun _ => rfl) ?_
        show u_P L xs m d m_X12_fair 74 [(4, .int (f_X12_byteAt x3 S)), (0, .ref 100), (1, .int j1), (2, .int x2), (3, .int x3)] [.int (Int32.ofInt 255), .int (f_X12_byteAt x3 S)] S R _
        refine u_ic_ne rfl (fun h2 => ?_) (fun h2 => ?_)
        · have hD := hD.1 h2
          show u_P L xs m d m_X12_fair 80 [(4, .int (f_X12_byteAt x3 S)), (0, .ref 100), (1, .int j1), (2, .int x2), (3, .int x3)] [] S R _
          refine u_st rfl (fun _ => rfl) ?_
          refine u_st rfl (fun _ => rfl) ?_
          show u_P L xs m d m_X12_fair 83 [(4, .int (f_X12_byteAt x3 S)), (0, .ref 100), (1, .int j1), (2, .int x2), (3, .int x3)] [.int (Int32.ofInt 5), .int (f_X12_byteAt x3 S)] S R _
          refine u_ic_ge rfl (fun h3 => ?_) (fun h3 => ?_)
          · have hD := hD.1 h3
            show u_P L xs m d m_X12_fair 107 [(4, .int (f_X12_byteAt x3 S)), (0, .ref 100), (1, .int j1), (2, .int x2), (3, .int x3)] [] S R _
            refine u_st rfl (fun _ => rfl) ?_
            show u_P L xs m d m_X12_fair 109 [(4, .int (f_X12_byteAt x3 S)), (0, .ref 100), (1, .int j1), (2, .int x2), (3, .int x3)] [.int (Int32.ofInt (-2))] S R _
            exact u_ret rfl rfl ⟨_, rfl, rfl, hD⟩
          · have hD := hD.2 h3
            show u_P L xs m d m_X12_fair 86 [(4, .int (f_X12_byteAt x3 S)), (0, .ref 100), (1, .int j1), (2, .int x2), (3, .int x3)] [] S R _
            refine u_st rfl (fun _ => rfl) ?_
            show u_P L xs m d m_X12_fair 87 [(4, .int (f_X12_byteAt x3 S)), (0, .ref 100), (1, .int j1), (2, .int x2), (3, .int x3)] [.ref 100] S R _
            refine u_getr rfl v_tyM rfl ?_
            refine u_st rfl (fun _ => rfl) ?_
            show u_P L xs m d m_X12_fair 92 [(4, .int (f_X12_byteAt x3 S)), (0, .ref 100), (1, .int j1), (2, .int x2), (3, .int x3)] [.int (f_X12_byteAt x3 S), .ref 163] S R _
            refine u_baldE (v := S 162 ((f_X12_byteAt x3 S).toInt.toNat)) rfl rfl (by decide) rfl (fun b41 b42 => ?_)
            have hD := hD b41 b42
            show u_P L xs m d m_X12_fair 93 [(4, .int (f_X12_byteAt x3 S)), (0, .ref 100), (1, .int j1), (2, .int x2), (3, .int x3)] [.int (S 162 ((f_X12_byteAt x3 S).toInt.toNat))] S R _
            refine u_if_eq rfl (fun h5 => ?_) (fun h5 => ?_)
            · have hD := hD.1 h5
              show u_P L xs m d m_X12_fair 107 [(4, .int (f_X12_byteAt x3 S)), (0, .ref 100), (1, .int j1), (2, .int x2), (3, .int x3)] [] S R _
              refine u_st rfl (fun _ => rfl) ?_
              show u_P L xs m d m_X12_fair 109 [(4, .int (f_X12_byteAt x3 S)), (0, .ref 100), (1, .int j1), (2, .int x2), (3, .int x3)] [.int (Int32.ofInt (-2))] S R _
              exact u_ret rfl rfl ⟨_, rfl, rfl, hD⟩
            · have hD := hD.2 h5
              show u_P L xs m d m_X12_fair 96 [(4, .int (f_X12_byteAt x3 S)), (0, .ref 100), (1, .int j1), (2, .int x2), (3, .int x3)] [] S R _
              refine u_st rfl (fun _ => rfl) ?_
              show u_P L xs m d m_X12_fair 97 [(4, .int (f_X12_byteAt x3 S)), (0, .ref 100), (1, .int j1), (2, .int x2), (3, .int x3)] [.ref 100] S R _
              refine u_getr rfl v_tyM rfl ?_
              refine u_st rfl (fun _ => rfl) ?_
              show u_P L xs m d m_X12_fair 102 [(4, .int (f_X12_byteAt x3 S)), (0, .ref 100), (1, .int j1), (2, .int x2), (3, .int x3)] [.int (f_X12_byteAt x3 S), .ref 166] S R _
              refine u_ialdE (v := S 165 ((f_X12_byteAt x3 S).toInt.toNat)) rfl rfl rfl (fun b61 b62 => ?_)
              have hD := hD b61 b62
              show u_P L xs m d m_X12_fair 103 [(4, .int (f_X12_byteAt x3 S)), (0, .ref 100), (1, .int j1), (2, .int x2), (3, .int x3)] [.int (S 165 ((f_X12_byteAt x3 S).toInt.toNat))] S R _
              refine u_st rfl (fun _ => rfl) ?_
              show u_P L xs m d m_X12_fair 104 [(4, .int (f_X12_byteAt x3 S)), (0, .ref 100), (1, .int j1), (2, .int x2), (3, .int x3)] [.int (Int32.ofInt (-1)), .int (S 165 ((f_X12_byteAt x3 S).toInt.toNat))] S R _
              refine u_ic_eq rfl (fun h7 => ?_) (fun h7 => ?_)
              · have hD := hD.1 h7
                show u_P L xs m d m_X12_fair 110 [(4, .int (f_X12_byteAt x3 S)), (0, .ref 100), (1, .int j1), (2, .int x2), (3, .int x3)] [] S R _
                refine u_st rfl (fun _ => rfl) ?_
                show u_P L xs m d m_X12_fair 111 [(4, .int (f_X12_byteAt x3 S)), (0, .ref 100), (1, .int j1), (2, .int x2), (3, .int x3)] [.ref 100] S R _
                refine u_getr rfl v_tyM rfl ?_
                refine u_st rfl (fun _ => rfl) ?_
                refine u_st rfl (fun _ => rfl) ?_
                show u_P L xs m d m_X12_fair 117 [(4, .int (f_X12_byteAt x3 S)), (0, .ref 100), (1, .int j1), (2, .int x2), (3, .int x3)] [.ref 100, .int (f_X12_byteAt x3 S), .ref 166] S R _
                refine u_getr rfl v_tyM rfl ?_
                refine u_st rfl (fun _ => rfl) ?_
                show u_P L xs m d m_X12_fair 121 [(4, .int (f_X12_byteAt x3 S)), (0, .ref 100), (1, .int j1), (2, .int x2), (3, .int x3)] [.int x3, .ref 153, .int (f_X12_byteAt x3 S), .ref 166] S R _
                refine u_ialdE (v := S 152 x3.toInt.toNat) rfl rfl rfl (fun b81 b82 => ?_)
                have hD := hD b81 b82
                show u_P L xs m d m_X12_fair 122 [(4, .int (f_X12_byteAt x3 S)), (0, .ref 100), (1, .int j1), (2, .int x2), (3, .int x3)] [.int (S 152 x3.toInt.toNat), .int (f_X12_byteAt x3 S), .ref 166] S R _
                refine u_iast rfl rfl (fun b91 b92 => ?_)
                have hD := hD b91 b92
                show u_P L xs m d m_X12_fair 123 [(4, .int (f_X12_byteAt x3 S)), (0, .ref 100), (1, .int j1), (2, .int x2), (3, .int x3)] [] (z_s S 165 ((f_X12_byteAt x3 S).toInt.toNat) (S 152 x3.toInt.toNat)) R _
                refine u_st rfl (fun _ => rfl) ?_
                refine u_st rfl (fun _ => rfl) ?_
                refine u_lc (b := [(0, .ref 100), (1, .int j1), (2, .int x2), (3, .int (x3 + (Int32.ofInt 1))), (4, .int (f_X12_byteAt x3 S))]) (show ([3, 4, 0, 1, 2] : List Nat).Nodup by decide) (show ([0, 1, 2, 3, 4] : List Nat).Nodup by decide) (fun i => match i with | 0 => rfl | 1 => rfl | 2 => rfl | 3 => rfl | 4 => rfl | _ + 5 => rfl) ?_
                exact (ih m hm).2.2.1 d j1 (f_X12_byteAt x3 S) x2 (x3 + (Int32.ofInt 1)) (z_s S 165 ((f_X12_byteAt x3 S).toInt.toNat) (S 152 x3.toInt.toNat)) hD
              · have hD := hD.2 h7
                show u_P L xs m d m_X12_fair 107 [(4, .int (f_X12_byteAt x3 S)), (0, .ref 100), (1, .int j1), (2, .int x2), (3, .int x3)] [] S R _
                refine u_st rfl (fun _ => rfl) ?_
                show u_P L xs m d m_X12_fair 109 [(4, .int (f_X12_byteAt x3 S)), (0, .ref 100), (1, .int j1), (2, .int x2), (3, .int x3)] [.int (Int32.ofInt (-2))] S R _
                exact u_ret rfl rfl ⟨_, rfl, rfl, hD⟩
        · have hD := hD.2 h2
          show u_P L xs m d m_X12_fair 77 [(4, .int (f_X12_byteAt x3 S)), (0, .ref 100), (1, .int j1), (2, .int x2), (3, .int x3)] [] S R _
          refine u_st rfl (fun _ => rfl) ?_
          refine u_st rfl (fun _ => rfl) ?_
          refine u_st rfl (fun _ => rfl) ?_
          refine u_lc (b := [(0, .ref 100), (1, .int j1), (2, .int x2), (3, .int (x3 + (Int32.ofInt 1))), (4, .int (f_X12_byteAt x3 S))]) (show ([3, 4, 0, 1, 2] : List Nat).Nodup by decide) (show ([0, 1, 2, 3, 4] : List Nat).Nodup by decide) (fun i => match i with | 0 => rfl | 1 => rfl | 2 => rfl | 3 => rfl | 4 => rfl | _ + 5 => rfl) ?_
          exact (ih m hm).2.2.1 d j1 (f_X12_byteAt x3 S) x2 (x3 + (Int32.ofInt 1)) S hD
    · intro d j1 x2 x3 x4 S hD
      have hD := k134 x2 x3 x4 S hD
      unfold D_X12_fair_134 at hD
      show u_P L xs n d m_X12_fair 134 [(0, .ref 100), (1, .int j1), (2, .int x2), (3, .int x3), (4, .int x4)] [] S R _
      refine u_st1 rfl (fun _ => rfl) (fun m hm => ?_)
      refine u_st rfl (fun _ => rfl) ?_
      show u_P L xs m d m_X12_fair 137 [(0, .ref 100), (1, .int j1), (2, .int x2), (3, .int x3), (4, .int x4)] [.int x2, .int x4] S R _
      refine u_ic_ge rfl (fun h1 => ?_) (fun h1 => ?_)
      · have hD := hD.1 h1
        show u_P L xs m d m_X12_fair 239 [(0, .ref 100), (1, .int j1), (2, .int x2), (3, .int x3), (4, .int x4)] [] S R _
        refine u_st rfl (fun _ => rfl) ?_
        show u_P L xs m d m_X12_fair 240 [(0, .ref 100), (1, .int j1), (2, .int x2), (3, .int x3), (4, .int x4)] [.int x3] S R _
        exact u_ret rfl rfl ⟨_, rfl, rfl, hD⟩
      · have hD := hD.2 h1
        show u_P L xs m d m_X12_fair 140 [(0, .ref 100), (1, .int j1), (2, .int x2), (3, .int x3), (4, .int x4)] [] S R _
        refine u_st rfl (fun _ => rfl) ?_
        refine u_st rfl (fun _ => rfl) ?_
        show u_P L xs m d m_X12_fair 143 [(0, .ref 100), (1, .int j1), (2, .int x2), (3, .int x3), (4, .int x4)] [.int x4, .ref 100] S R _
        refine u_cv (rest := []) rfl (by decide) mt_X12_byteAt v_tyM rfl rfl rfl (Nat.le_of_ble_eq_true rfl) (Nat.le_of_ble_eq_true rfl) (Nat.le_of_ble_eq_true rfl) (fun d' => c_X12_byteAt L xs m d' x4 S R) ?_
        rintro _ _ _ ⟨_, rfl, rfl, rfl, rfl⟩
        refine u_st rfl (fun _ => rfl) ?_
        show u_P L xs m d m_X12_fair 149 [(0, .ref 100), (1, .int j1), (2, .int x2), (3, .int x3), (4, .int x4)] [.int (Int32.ofInt 255), .int (f_X12_byteAt x4 S)] S R _
        refine u_ic_ne rfl (fun h2 => ?_) (fun h2 => ?_)
        · have hD := hD.1 h2
          show u_P L xs m d m_X12_fair 156 [(0, .ref 100), (1, .int j1), (2, .int x2), (3, .int x3), (4, .int x4)] [] S R _
          refine u_st rfl (fun _ => rfl) ?_
          refine u_st rfl (fun _ => rfl) ?_
          show u_P L xs m d m_X12_fair 159 [(0, .ref 100), (1, .int j1), (2, .int x2), (3, .int x3), (4, .int x4)] [.int x4, .ref 100] S R _
          refine u_cv (rest := []) rfl (by decide) mt_X12_byteAt v_tyM rfl rfl rfl (Nat.le_of_ble_eq_true rfl) (Nat.le_of_ble_eq_true rfl) (Nat.le_of_ble_eq_true rfl) (fun d' => c_X12_byteAt L xs m d' x4 S R) ?_
          rintro _ _ _ ⟨_, rfl, rfl, rfl, rfl⟩
          refine u_st rfl (fun _ => rfl) ?_
          refine u_st rfl (fun _ => rfl) ?_
          refine u_st rfl (fun _ => rfl) ?_
          refine u_lc (b := [(0, .ref 100), (1, .int j1), (2, .int x2), (3, .int x3), (4, .int x4), (5, .int (f_X12_byteAt x4 S)), (6, .int (Int32.ofInt 0))]) (show ([6, 5, 0, 1, 2, 3, 4] : List Nat).Nodup by decide) (show ([0, 1, 2, 3, 4, 5, 6] : List Nat).Nodup by decide) (fun i => match i with | 0 => rfl | 1 => rfl | 2 => rfl | 3 => rfl | 4 => rfl | 5 => rfl | 6 => rfl | _ + 7 => rfl) ?_
          exact (ih m hm).2.2.2.2.2 d j1 x2 x3 x4 (f_X12_byteAt x4 S) (Int32.ofInt 0) S hD
        · have hD := hD.2 h2
          show u_P L xs m d m_X12_fair 152 [(0, .ref 100), (1, .int j1), (2, .int x2), (3, .int x3), (4, .int x4)] [] S R _
          refine u_st rfl (fun _ => rfl) ?_
          refine u_st rfl (fun _ => rfl) ?_
          refine u_st rfl (fun _ => rfl) ?_
          refine u_st rfl (fun _ => rfl) ?_
          refine u_st rfl (fun _ => rfl) ?_
          refine u_lc (b := [(0, .ref 100), (1, .int j1), (2, .int x2), (3, .int x3), (4, .int x4), (5, .int (Int32.ofInt (-1))), (6, .int (Int32.ofInt 0))]) (show ([6, 5, 0, 1, 2, 3, 4] : List Nat).Nodup by decide) (show ([0, 1, 2, 3, 4, 5, 6] : List Nat).Nodup by decide) (fun i => match i with | 0 => rfl | 1 => rfl | 2 => rfl | 3 => rfl | 4 => rfl | 5 => rfl | 6 => rfl | _ + 7 => rfl) ?_
          exact (ih m hm).2.2.2.2.2 d j1 x2 x3 x4 (Int32.ofInt (-1)) (Int32.ofInt 0) S hD
    · intro d j1 j5 j6 x2 x3 x4 S hD
      have hD := k134 x2 x3 x4 S hD
      unfold D_X12_fair_134 at hD
      show u_P L xs n d m_X12_fair 134 [(0, .ref 100), (1, .int j1), (2, .int x2), (3, .int x3), (4, .int x4), (5, .int j5), (6, .int j6)] [] S R _
      refine u_st1 rfl (fun _ => rfl) (fun m hm => ?_)
      refine u_st rfl (fun _ => rfl) ?_
      show u_P L xs m d m_X12_fair 137 [(0, .ref 100), (1, .int j1), (2, .int x2), (3, .int x3), (4, .int x4), (5, .int j5), (6, .int j6)] [.int x2, .int x4] S R _
      refine u_ic_ge rfl (fun h1 => ?_) (fun h1 => ?_)
      · have hD := hD.1 h1
        show u_P L xs m d m_X12_fair 239 [(0, .ref 100), (1, .int j1), (2, .int x2), (3, .int x3), (4, .int x4), (5, .int j5), (6, .int j6)] [] S R _
        refine u_st rfl (fun _ => rfl) ?_
        show u_P L xs m d m_X12_fair 240 [(0, .ref 100), (1, .int j1), (2, .int x2), (3, .int x3), (4, .int x4), (5, .int j5), (6, .int j6)] [.int x3] S R _
        exact u_ret rfl rfl ⟨_, rfl, rfl, hD⟩
      · have hD := hD.2 h1
        show u_P L xs m d m_X12_fair 140 [(0, .ref 100), (1, .int j1), (2, .int x2), (3, .int x3), (4, .int x4), (5, .int j5), (6, .int j6)] [] S R _
        refine u_st rfl (fun _ => rfl) ?_
        refine u_st rfl (fun _ => rfl) ?_
        show u_P L xs m d m_X12_fair 143 [(0, .ref 100), (1, .int j1), (2, .int x2), (3, .int x3), (4, .int x4), (5, .int j5), (6, .int j6)] [.int x4, .ref 100] S R _
        refine u_cv (rest := []) rfl (by decide) mt_X12_byteAt v_tyM rfl rfl rfl (Nat.le_of_ble_eq_true rfl) (Nat.le_of_ble_eq_true rfl) (Nat.le_of_ble_eq_true rfl) (fun d' => c_X12_byteAt L xs m d' x4 S R) ?_
        rintro _ _ _ ⟨_, rfl, rfl, rfl, rfl⟩
        refine u_st rfl (fun _ => rfl) ?_
        show u_P L xs m d m_X12_fair 149 [(0, .ref 100), (1, .int j1), (2, .int x2), (3, .int x3), (4, .int x4), (5, .int j5), (6, .int j6)] [.int (Int32.ofInt 255), .int (f_X12_byteAt x4 S)] S R _
        refine u_ic_ne rfl (fun h2 => ?_) (fun h2 => ?_)
        · have hD := hD.1 h2
          show u_P L xs m d m_X12_fair 156 [(0, .ref 100), (1, .int j1), (2, .int x2), (3, .int x3), (4, .int x4), (5, .int j5), (6, .int j6)] [] S R _
          refine u_st rfl (fun _ => rfl) ?_
          refine u_st rfl (fun _ => rfl) ?_
          show u_P L xs m d m_X12_fair 159 [(0, .ref 100), (1, .int j1), (2, .int x2), (3, .int x3), (4, .int x4), (5, .int j5), (6, .int j6)] [.int x4, .ref 100] S R _
          refine u_cv (rest := []) rfl (by decide) mt_X12_byteAt v_tyM rfl rfl rfl (Nat.le_of_ble_eq_true rfl) (Nat.le_of_ble_eq_true rfl) (Nat.le_of_ble_eq_true rfl) (fun d' => c_X12_byteAt L xs m d' x4 S R) ?_
          rintro _ _ _ ⟨_, rfl, rfl, rfl, rfl⟩
          refine u_st rfl (fun _ => rfl) ?_
          refine u_st rfl (fun _ => rfl) ?_
          refine u_st rfl (fun _ => rfl) ?_
          refine u_lc (b := [(0, .ref 100), (1, .int j1), (2, .int x2), (3, .int x3), (4, .int x4), (5, .int (f_X12_byteAt x4 S)), (6, .int (Int32.ofInt 0))]) (show ([6, 5, 0, 1, 2, 3, 4] : List Nat).Nodup by decide) (show ([0, 1, 2, 3, 4, 5, 6] : List Nat).Nodup by decide) (fun i => match i with | 0 => rfl | 1 => rfl | 2 => rfl | 3 => rfl | 4 => rfl | 5 => rfl | 6 => rfl | _ + 7 => rfl) ?_
          exact (ih m hm).2.2.2.2.2 d j1 x2 x3 x4 (f_X12_byteAt x4 S) (Int32.ofInt 0) S hD
        · have hD := hD.2 h2
          show u_P L xs m d m_X12_fair 152 [(0, .ref 100), (1, .int j1), (2, .int x2), (3, .int x3), (4, .int x4), (5, .int j5), (6, .int j6)] [] S R _
          refine u_st rfl (fun _ => rfl) ?_
          refine u_st rfl (fun _ => rfl) ?_
          refine u_st rfl (fun _ => rfl) ?_
          refine u_st rfl (fun _ => rfl) ?_
          refine u_st rfl (fun _ => rfl) ?_
          refine u_lc (b := [(0, .ref 100), (1, .int j1), (2, .int x2), (3, .int x3), (4, .int x4), (5, .int (Int32.ofInt (-1))), (6, .int (Int32.ofInt 0))]) (show ([6, 5, 0, 1, 2, 3, 4] : List Nat).Nodup by decide) (show ([0, 1, 2, 3, 4, 5, 6] : List Nat).Nodup by decide) (fun i => match i with | 0 => rfl | 1 => rfl | 2 => rfl | 3 => rfl | 4 => rfl | 5 => rfl | 6 => rfl | _ + 7 => rfl) ?_
          exact (ih m hm).2.2.2.2.2 d j1 x2 x3 x4 (Int32.ofInt (-1)) (Int32.ofInt 0) S hD
    · intro d j1 x2 x3 x4 x5 x6 S hD
      have hD := k167 x2 x3 x4 x5 x6 S hD
      unfold D_X12_fair_167 at hD
      show u_P L xs n d m_X12_fair 167 [(0, .ref 100), (1, .int j1), (2, .int x2), (3, .int x3), (4, .int x4), (5, .int x5), (6, .int x6)] [] S R _
      refine u_st1 rfl (fun _ => rfl) (fun m hm => ?_)
      refine u_st rfl (fun _ => rfl) ?_
      show u_P L xs m d m_X12_fair 170 [(0, .ref 100), (1, .int j1), (2, .int x2), (3, .int x3), (4, .int x4), (5, .int x5), (6, .int x6)] [.int (Int32.ofInt 5), .int x6] S R _
      refine u_ic_ge rfl (fun h1 => ?_) (fun h1 => ?_)
      · have hD := hD.1 h1
        show u_P L xs m d m_X12_fair 233 [(0, .ref 100), (1, .int j1), (2, .int x2), (3, .int x3), (4, .int x4), (5, .int x5), (6, .int x6)] [] S R _
        refine u_st rfl (fun _ => rfl) ?_
        refine u_st rfl (fun _ => rfl) ?_
        refine u_lc (b := [(0, .ref 100), (1, .int j1), (2, .int x2), (3, .int x3), (4, .int (x4 + (Int32.ofInt 1))), (5, .int x5), (6, .int x6)]) (show ([4, 0, 1, 2, 3, 5, 6] : List Nat).Nodup by decide) (show ([0, 1, 2, 3, 4, 5, 6] : List Nat).Nodup by decide) (fun i => match i with | 0 => rfl | 1 => rfl | 2 => rfl | 3 => rfl | 4 => rfl | 5 => rfl | 6 => rfl | _ + 7 => rfl) ?_
        exact (ih m hm).2.2.2.2.1 d j1 x5 x6 x2 x3 (x4 + (Int32.ofInt 1)) S hD
      · have hD := hD.2 h1
        show u_P L xs m d m_X12_fair 173 [(0, .ref 100), (1, .int j1), (2, .int x2), (3, .int x3), (4, .int x4), (5, .int x5), (6, .int x6)] [] S R _
        refine u_st rfl (fun _ => rfl) ?_
        show u_P L xs m d m_X12_fair 174 [(0, .ref 100), (1, .int j1), (2, .int x2), (3, .int x3), (4, .int x4), (5, .int x5), (6, .int x6)] [.ref 100] S R _
        refine u_getr rfl v_tyM rfl ?_
        refine u_st rfl (fun _ => rfl) ?_
        show u_P L xs m d m_X12_fair 179 [(0, .ref 100), (1, .int j1), (2, .int x2), (3, .int x3), (4, .int x4), (5, .int x5), (6, .int x6)] [.int x6, .ref 163] S R _
        refine u_baldE (v := S 162 x6.toInt.toNat) rfl rfl (by decide) rfl (fun b21 b22 => ?_)
        have hD := hD b21 b22
        show u_P L xs m d m_X12_fair 180 [(0, .ref 100), (1, .int j1), (2, .int x2), (3, .int x3), (4, .int x4), (5, .int x5), (6, .int x6)] [.int (S 162 x6.toInt.toNat)] S R _
        refine u_if_eq rfl (fun h3 => ?_) (fun h3 => ?_)
        · have hD := hD.1 h3
          show u_P L xs m d m_X12_fair 227 [(0, .ref 100), (1, .int j1), (2, .int x2), (3, .int x3), (4, .int x4), (5, .int x5), (6, .int x6)] [] S R _
          refine u_st rfl (fun _ => rfl) ?_
          refine u_st rfl (fun _ => rfl) ?_
          refine u_lc (b := [(0, .ref 100), (1, .int j1), (2, .int x2), (3, .int x3), (4, .int x4), (5, .int x5), (6, .int (x6 + (Int32.ofInt 1)))]) (show ([6, 0, 1, 2, 3, 4, 5] : List Nat).Nodup by decide) (show ([0, 1, 2, 3, 4, 5, 6] : List Nat).Nodup by decide) (fun i => match i with | 0 => rfl | 1 => rfl | 2 => rfl | 3 => rfl | 4 => rfl | 5 => rfl | 6 => rfl | _ + 7 => rfl) ?_
          exact (ih m hm).2.2.2.2.2 d j1 x2 x3 x4 x5 (x6 + (Int32.ofInt 1)) S hD
        · have hD := hD.2 h3
          show u_P L xs m d m_X12_fair 183 [(0, .ref 100), (1, .int j1), (2, .int x2), (3, .int x3), (4, .int x4), (5, .int x5), (6, .int x6)] [] S R _
          refine u_st rfl (fun _ => rfl) ?_
          refine u_st rfl (fun _ => rfl) ?_
          show u_P L xs m d m_X12_fair 187 [(0, .ref 100), (1, .int j1), (2, .int x2), (3, .int x3), (4, .int x4), (5, .int x5), (6, .int x6)] [.int x5, .int x6] S R _
          refine u_ic_eq rfl (fun h4 => ?_) (fun h4 => ?_)
          · have hD := hD.1 h4
            show u_P L xs m d m_X12_fair 227 [(0, .ref 100), (1, .int j1), (2, .int x2), (3, .int x3), (4, .int x4), (5, .int x5), (6, .int x6)] [] S R _
            refine u_st rfl (fun _ => rfl) ?_
            refine u_st rfl (fun _ => rfl) ?_
            refine u_lc (b := [(0, .ref 100), (1, .int j1), (2, .int x2), (3, .int x3), (4, .int x4), (5, .int x5), (6, .int (x6 + (Int32.ofInt 1)))]) (show ([6, 0, 1, 2, 3, 4, 5] : List Nat).Nodup by decide) (show ([0, 1, 2, 3, 4, 5, 6] : List Nat).Nodup by decide) (fun i => match i with | 0 => rfl | 1 => rfl | 2 => rfl | 3 => rfl | 4 => rfl | 5 => rfl | 6 => rfl | _ + 7 => rfl) ?_
            exact (ih m hm).2.2.2.2.2 d j1 x2 x3 x4 x5 (x6 + (Int32.ofInt 1)) S hD
          · have hD := hD.2 h4
            show u_P L xs m d m_X12_fair 190 [(0, .ref 100), (1, .int j1), (2, .int x2), (3, .int x3), (4, .int x4), (5, .int x5), (6, .int x6)] [] S R _
            refine u_st rfl (fun _ => rfl) ?_
            refine u_st rfl (fun _ => rfl) ?_
            refine u_st rfl (fun _ => rfl) ?_
            show u_P L xs m d m_X12_fair 195 [(0, .ref 100), (1, .int j1), (2, .int x2), (3, .int x3), (4, .int x4), (5, .int x5), (6, .int x6)] [.int x5, .int x6, .ref 100] S R _
            refine u_cv (rest := []) rfl (by decide) mt_X12_isHigher v_tyM rfl rfl rfl (Nat.le_of_ble_eq_true rfl) (Nat.le_of_ble_eq_true rfl) (Nat.le_of_ble_eq_true rfl) (fun d' => c_X12_isHigher L xs m d' x6 x5 S R) ?_
            rintro _ _ _ ⟨_, rfl, rfl, rfl, rfl⟩
            show u_P L xs m d m_X12_fair 198 [(0, .ref 100), (1, .int j1), (2, .int x2), (3, .int x3), (4, .int x4), (5, .int x5), (6, .int x6)] [.int (f_X12_isHigher x6 x5 S)] S R _
            refine u_if_eq rfl (fun h5 => ?_) (fun h5 => ?_)
            · have hD := hD.1 h5
              show u_P L xs m d m_X12_fair 227 [(0, .ref 100), (1, .int j1), (2, .int x2), (3, .int x3), (4, .int x4), (5, .int x5), (6, .int x6)] [] S R _
              refine u_st rfl (fun _ => rfl) ?_
              refine u_st rfl (fun _ => rfl) ?_
              refine u_lc (b := [(0, .ref 100), (1, .int j1), (2, .int x2), (3, .int x3), (4, .int x4), (5, .int x5), (6, .int (x6 + (Int32.ofInt 1)))]) (show ([6, 0, 1, 2, 3, 4, 5] : List Nat).Nodup by decide) (show ([0, 1, 2, 3, 4, 5, 6] : List Nat).Nodup by decide) (fun i => match i with | 0 => rfl | 1 => rfl | 2 => rfl | 3 => rfl | 4 => rfl | 5 => rfl | 6 => rfl | _ + 7 => rfl) ?_
              exact (ih m hm).2.2.2.2.2 d j1 x2 x3 x4 x5 (x6 + (Int32.ofInt 1)) S hD
            · have hD := hD.2 h5
              show u_P L xs m d m_X12_fair 201 [(0, .ref 100), (1, .int j1), (2, .int x2), (3, .int x3), (4, .int x4), (5, .int x5), (6, .int x6)] [] S R _
              refine u_st rfl (fun _ => rfl) ?_
              refine u_st rfl (fun _ => rfl) ?_
              refine u_st rfl (fun _ => rfl) ?_
              show u_P L xs m d m_X12_fair 205 [(0, .ref 100), (1, .int j1), (2, .int x2), (3, .int x3), (4, .int x4), (5, .int x5), (6, .int x6)] [.ref 100, .int x6, .ref 100] S R _
              refine u_getr rfl v_tyM rfl ?_
              refine u_st rfl (fun _ => rfl) ?_
              show u_P L xs m d m_X12_fair 210 [(0, .ref 100), (1, .int j1), (2, .int x2), (3, .int x3), (4, .int x4), (5, .int x5), (6, .int x6)] [.int x4, .ref 153, .int x6, .ref 100] S R _
              refine u_ialdE (v := S 152 x4.toInt.toNat) rfl rfl rfl (fun b61 b62 => ?_)
              have hD := hD b61 b62
              show u_P L xs m d m_X12_fair 211 [(0, .ref 100), (1, .int j1), (2, .int x2), (3, .int x3), (4, .int x4), (5, .int x5), (6, .int x6)] [.int (S 152 x4.toInt.toNat), .int x6, .ref 100] S R _
              refine u_st rfl (fun _ => rfl) ?_
              show u_P L xs m d m_X12_fair 212 [(0, .ref 100), (1, .int j1), (2, .int x2), (3, .int x3), (4, .int x4), (5, .int x5), (6, .int x6)] [.ref 100, .int (S 152 x4.toInt.toNat), .int x6, .ref 100] S R _
              refine u_getr rfl v_tyM rfl ?_
              refine u_st rfl (fun _ => rfl) ?_
              show u_P L xs m d m_X12_fair 217 [(0, .ref 100), (1, .int j1), (2, .int x2), (3, .int x3), (4, .int x4), (5, .int x5), (6, .int x6)] [.int x6, .ref 166, .int (S 152 x4.toInt.toNat), .int x6, .ref 100] S R _
              refine u_ialdE (v := S 165 x6.toInt.toNat) rfl rfl rfl (fun b71 b72 => ?_)
              have hD := hD b71 b72
              show u_P L xs m d m_X12_fair 218 [(0, .ref 100), (1, .int j1), (2, .int x2), (3, .int x3), (4, .int x4), (5, .int x5), (6, .int x6)] [.int (S 165 x6.toInt.toNat), .int (S 152 x4.toInt.toNat), .int x6, .ref 100] S R _
              refine u_cv (rest := []) rfl (by decide) mt_X12_isLiked v_tyM rfl rfl rfl (Nat.le_of_ble_eq_true rfl) (Nat.le_of_ble_eq_true rfl) (Nat.le_of_ble_eq_true rfl) (fun d' => c_X12_isLiked L xs m d' x6 (S 152 x4.toInt.toNat) (S 165 x6.toInt.toNat) S R) ?_
              rintro _ _ _ ⟨_, rfl, rfl, rfl, rfl⟩
              show u_P L xs m d m_X12_fair 221 [(0, .ref 100), (1, .int j1), (2, .int x2), (3, .int x3), (4, .int x4), (5, .int x5), (6, .int x6)] [.int (f_X12_isLiked x6 (S 152 x4.toInt.toNat) (S 165 x6.toInt.toNat) S)] S R _
              refine u_if_eq rfl (fun h8 => ?_) (fun h8 => ?_)
              · have hD := hD.1 h8
                show u_P L xs m d m_X12_fair 227 [(0, .ref 100), (1, .int j1), (2, .int x2), (3, .int x3), (4, .int x4), (5, .int x5), (6, .int x6)] [] S R _
                refine u_st rfl (fun _ => rfl) ?_
                refine u_st rfl (fun _ => rfl) ?_
                refine u_lc (b := [(0, .ref 100), (1, .int j1), (2, .int x2), (3, .int x3), (4, .int x4), (5, .int x5), (6, .int (x6 + (Int32.ofInt 1)))]) (show ([6, 0, 1, 2, 3, 4, 5] : List Nat).Nodup by decide) (show ([0, 1, 2, 3, 4, 5, 6] : List Nat).Nodup by decide) (fun i => match i with | 0 => rfl | 1 => rfl | 2 => rfl | 3 => rfl | 4 => rfl | 5 => rfl | 6 => rfl | _ + 7 => rfl) ?_
                exact (ih m hm).2.2.2.2.2 d j1 x2 x3 x4 x5 (x6 + (Int32.ofInt 1)) S hD
              · have hD := hD.2 h8
                show u_P L xs m d m_X12_fair 224 [(0, .ref 100), (1, .int j1), (2, .int x2), (3, .int x3), (4, .int x4), (5, .int x5), (6, .int x6)] [] S R _
                refine u_st rfl (fun _ => rfl) ?_
                refine u_st rfl (fun _ => rfl) ?_
                refine u_st rfl (fun _ => rfl) ?_
                refine u_lc (b := [(0, .ref 100), (1, .int j1), (2, .int x2), (3, .int (x3 + (Int32.ofInt 1))), (4, .int x4), (5, .int x5), (6, .int (x6 + (Int32.ofInt 1)))]) (show ([6, 3, 0, 1, 2, 4, 5] : List Nat).Nodup by decide) (show ([0, 1, 2, 3, 4, 5, 6] : List Nat).Nodup by decide) (fun i => match i with | 0 => rfl | 1 => rfl | 2 => rfl | 3 => rfl | 4 => rfl | 5 => rfl | 6 => rfl | _ + 7 => rfl) ?_
                exact (ih m hm).2.2.2.2.2 d j1 x2 (x3 + (Int32.ofInt 1)) x4 x5 (x6 + (Int32.ofInt 1)) S hD
set_option maxRecDepth 4000 in
theorem w_X12_fair (L : Nat) (xs : Nat → Int32) {R : v_Rf} (a : Int32) (H37 : Int32 → Int32 → v_Sf → Prop) (H57 : Int32 → Int32 → v_Sf → Prop) (H134 : Int32 → Int32 → Int32 → v_Sf → Prop) (H167 : Int32 → Int32 → Int32 → Int32 → Int32 → v_Sf → Prop) (K : Int32 → v_Sf → Prop) (k37 : ∀ (x2 : Int32) (x3 : Int32) (S : v_Sf), H37 x2 x3 S → D_X12_fair_37 H37 H57 H134 H167 K x2 x3 S) (k57 : ∀ (x2 : Int32) (x3 : Int32) (S : v_Sf), H57 x2 x3 S → D_X12_fair_57 H37 H57 H134 H167 K x2 x3 S) (k134 : ∀ (x2 : Int32) (x3 : Int32) (x4 : Int32) (S : v_Sf), H134 x2 x3 x4 S → D_X12_fair_134 H37 H57 H134 H167 K x2 x3 x4 S) (k167 : ∀ (x2 : Int32) (x3 : Int32) (x4 : Int32) (x5 : Int32) (x6 : Int32) (S : v_Sf), H167 x2 x3 x4 x5 x6 S → D_X12_fair_167 H37 H57 H134 H167 K x2 x3 x4 x5 x6 S) (n d : Nat) (S : v_Sf) (hD : D_X12_fair a H37 H57 H134 H167 K S) : u_P L xs n d m_X12_fair 0 (lv_args 0 [.ref 100, .int a]) [] S R (z_Q R K) := by
  unfold D_X12_fair at hD
  show u_P L xs n d m_X12_fair 0 [(0, .ref 100), (1, .int a)] [] S R _
  refine u_st rfl (fun _ => rfl) ?_
  refine u_st rfl (fun _ => rfl) ?_
  refine u_st rfl (fun _ => rfl) ?_
  refine u_st rfl (fun _ => rfl) ?_
  show u_P L xs n d m_X12_fair 5 [(0, .ref 100), (1, .int a)] [.int (Int32.ofInt 6), .int (Int32.ofInt 1), .int a, .ref 100] S R _
  refine u_cv (rest := []) rfl (by decide) mt_X12_areGusts v_tyM rfl rfl rfl (Nat.le_of_ble_eq_true rfl) (Nat.le_of_ble_eq_true rfl) (Nat.le_of_ble_eq_true rfl) (fun d' => c_X12_areGusts L xs n d' a (Int32.ofInt 1) (Int32.ofInt 6) S R) ?_
  rintro _ _ _ ⟨_, rfl, rfl, rfl, rfl⟩
  show u_P L xs n d m_X12_fair 8 [(0, .ref 100), (1, .int a)] [.int (f_X12_areGusts a (Int32.ofInt 1) (Int32.ofInt 6) S)] S R _
  refine u_if_eq rfl (fun h1 => ?_) (fun h1 => ?_)
  · have hD := hD.1 h1
    show u_P L xs n d m_X12_fair 22 [(0, .ref 100), (1, .int a)] [] S R _
    refine u_st rfl (fun _ => rfl) ?_
    show u_P L xs n d m_X12_fair 23 [(0, .ref 100), (1, .int a)] [.int (Int32.ofInt (-1))] S R _
    exact u_ret rfl rfl ⟨_, rfl, rfl, hD⟩
  · have hD := hD.2 h1
    show u_P L xs n d m_X12_fair 11 [(0, .ref 100), (1, .int a)] [] S R _
    refine u_st rfl (fun _ => rfl) ?_
    show u_P L xs n d m_X12_fair 12 [(0, .ref 100), (1, .int a)] [.int a] S R _
    refine u_cs (ac := [.int a]) (rest := []) rfl (by decide) mt_X12_sizeOf (fun _ => rfl) (Nat.le_of_ble_eq_true rfl) (Nat.le_of_ble_eq_true rfl) (fun d' => c_X12_sizeOf L xs n d' a S R) ?_
    rintro _ _ _ ⟨_, rfl, rfl, rfl, rfl⟩
    refine u_st rfl (fun _ => rfl) ?_
    show u_P L xs n d m_X12_fair 16 [(0, .ref 100), (1, .int a)] [.ref 100, .int (f_X12_sizeOf a)] S R _
    refine u_getE (v := S 99 1) rfl v_tyM rfl rfl ?_
    show u_P L xs n d m_X12_fair 19 [(0, .ref 100), (1, .int a)] [.int (S 99 1), .int (f_X12_sizeOf a)] S R _
    refine u_ic_le rfl (fun h2 => ?_) (fun h2 => ?_)
    · have hD := hD.1 h2
      show u_P L xs n d m_X12_fair 24 [(0, .ref 100), (1, .int a)] [] S R _
      refine u_st rfl (fun _ => rfl) ?_
      refine u_st rfl (fun _ => rfl) ?_
      show u_P L xs n d m_X12_fair 26 [(0, .ref 100), (1, .int a)] [.int a, .ref 100] S R _
      refine u_cv (rest := []) rfl (by decide) mt_X12_takesSome v_tyM rfl rfl rfl (Nat.le_of_ble_eq_true rfl) (Nat.le_of_ble_eq_true rfl) (Nat.le_of_ble_eq_true rfl) (fun d' => c_X12_takesSome L xs n d' a S R) ?_
      rintro _ _ _ ⟨_, rfl, rfl, rfl, rfl⟩
      refine u_st rfl (fun _ => rfl) ?_
      refine u_st rfl (fun _ => rfl) ?_
      refine u_st rfl (fun _ => rfl) ?_
      show u_P L xs n d m_X12_fair 32 [(2, .int (f_X12_takesSome a S)), (0, .ref 100), (1, .int a)] [.int (Int32.ofInt 0), .ref 100] (g_X12_takesSome a S) R _
      refine u_put rfl v_tyM rfl ?_
      refine u_st rfl (fun _ => rfl) ?_
      refine u_st rfl (fun _ => rfl) ?_
      refine u_lc (b := [(0, .ref 100), (1, .int a), (2, .int (f_X12_takesSome a S)), (3, .int (Int32.ofInt 0))]) (show ([3, 2, 0, 1] : List Nat).Nodup by decide) (show ([0, 1, 2, 3] : List Nat).Nodup by decide) (fun i => match i with | 0 => rfl | 1 => rfl | 2 => rfl | 3 => rfl | _ + 4 => rfl) ?_
      exact (hd_X12_fair L xs a H37 H57 H134 H167 K k37 k57 k134 k167 n).1 d a (f_X12_takesSome a S) (Int32.ofInt 0) (z_s (g_X12_takesSome a S) 99 1 (Int32.ofInt 0)) hD
    · have hD := hD.2 h2
      show u_P L xs n d m_X12_fair 22 [(0, .ref 100), (1, .int a)] [] S R _
      refine u_st rfl (fun _ => rfl) ?_
      show u_P L xs n d m_X12_fair 23 [(0, .ref 100), (1, .int a)] [.int (Int32.ofInt (-1))] S R _
      exact u_ret rfl rfl ⟨_, rfl, rfl, hD⟩
noncomputable def r_X12_fair_167 (x2 : Int32) (κ134 : Int32 → v_Sf → Int32 × v_Sf) (k134 : Nat) : Nat → Nat → Int32 → Int32 → v_Sf → Int32 × v_Sf
  | 0, k167, x3, x5, S => κ134 x3 S
  | r + 1, k167, x3, x5, S => (if (S 162 (z_i k167).toInt.toNat) = 0 then r_X12_fair_167 x2 κ134 k134 r (k167 + 1) x3 x5 S else (if (z_i k167) = x5 then r_X12_fair_167 x2 κ134 k134 r (k167 + 1) x3 x5 S else (if (f_X12_isHigher (z_i k167) x5 S) = 0 then r_X12_fair_167 x2 κ134 k134 r (k167 + 1) x3 x5 S else (if (f_X12_isLiked (z_i k167) (S 152 (z_i k134).toInt.toNat) (S 165 (z_i k167).toInt.toNat) S) = 0 then r_X12_fair_167 x2 κ134 k134 r (k167 + 1) x3 x5 S else r_X12_fair_167 x2 κ134 k134 r (k167 + 1) (x3 + (Int32.ofInt 1)) x5 S))))
noncomputable def r_X12_fair_134 (x2 : Int32) : Nat → Nat → Int32 → v_Sf → Int32 × v_Sf
  | 0, k134, x3, S => (x3, S)
  | r + 1, k134, x3, S => (if ¬ (f_X12_byteAt (z_i k134) S) = (Int32.ofInt 255) then r_X12_fair_167 x2 (fun v0 S => r_X12_fair_134 x2 r (k134 + 1) v0 S) k134 (5 - 0) 0 x3 (f_X12_byteAt (z_i k134) S) S else r_X12_fair_167 x2 (fun v0 S => r_X12_fair_134 x2 r (k134 + 1) v0 S) k134 (5 - 0) 0 x3 (Int32.ofInt (-1)) S)
noncomputable def r_X12_fair_57 (x2 : Int32) : Nat → Nat → v_Sf → Int32 × v_Sf
  | 0, k57, S => r_X12_fair_134 x2 (x2.toInt.toNat - 0) 0 (Int32.ofInt 0) S
  | r + 1, k57, S => (if ¬ (f_X12_byteAt (z_i k57) S) = (Int32.ofInt 255) then (if (Int32.ofInt 5) ≤ (f_X12_byteAt (z_i k57) S) then (Int32.ofInt (-2), S) else (if (S 162 ((f_X12_byteAt (z_i k57) S).toInt.toNat)) = 0 then (Int32.ofInt (-2), S) else (if (S 165 ((f_X12_byteAt (z_i k57) S).toInt.toNat)) = (Int32.ofInt (-1)) then r_X12_fair_57 x2 r (k57 + 1) (z_s S 165 ((f_X12_byteAt (z_i k57) S).toInt.toNat) (S 152 (z_i k57).toInt.toNat)) else (Int32.ofInt (-2), S)))) else r_X12_fair_57 x2 r (k57 + 1) S)
noncomputable def r_X12_fair_37 (x2 : Int32) : Nat → Nat → v_Sf → Int32 × v_Sf
  | 0, k37, S => r_X12_fair_57 x2 (x2.toInt.toNat - 0) 0 S
  | r + 1, k37, S => r_X12_fair_37 x2 r (k37 + 1) (z_s S 165 (z_i k37).toInt.toNat (Int32.ofInt (-1)))
noncomputable def F_X12_fair (a : Int32) (S : v_Sf) : Int32 × v_Sf := (if (f_X12_areGusts a (Int32.ofInt 1) (Int32.ofInt 6) S) = 0 then (Int32.ofInt (-1), S) else (if (f_X12_sizeOf a) ≤ (S 99 1) then r_X12_fair_37 (f_X12_takesSome a S) (5 - 0) 0 (z_s (g_X12_takesSome a S) 99 1 (Int32.ofInt 0)) else (Int32.ofInt (-1), S)))
noncomputable def f_X12_fair (a : Int32) (S : v_Sf) : Int32 := (F_X12_fair a S).1
noncomputable def g_X12_fair (a : Int32) (S : v_Sf) : v_Sf := (F_X12_fair a S).2
theorem c_X12_fair (L : Nat) (xs : Nat → Int32) (n d : Nat) (a : Int32) (S : v_Sf) (R : v_Rf) : u_P L xs n d m_X12_fair 0 (lv_args 0 [.ref 100, .int a]) [] S R (z_Q R (fun v S1 => f_X12_fair a S = v ∧ g_X12_fair a S = S1)) := by
  refine w_X12_fair L xs a (fun y2 y3 T => ∃ (k37 : Nat), k37 ≤ 5 ∧ z_i k37 = y3 ∧ f_X12_takesSome a S = y2 ∧ r_X12_fair_37 (f_X12_takesSome a S) (5 - k37) k37 T = F_X12_fair a S) (fun y2 y3 T => ∃ (k57 : Nat), k57 ≤ ((f_X12_takesSome a S)).toInt.toNat ∧ z_i k57 = y3 ∧ f_X12_takesSome a S = y2 ∧ r_X12_fair_57 (f_X12_takesSome a S) (((f_X12_takesSome a S)).toInt.toNat - k57) k57 T = F_X12_fair a S) (fun y2 y3 y4 T => ∃ (k134 : Nat), k134 ≤ ((f_X12_takesSome a S)).toInt.toNat ∧ z_i k134 = y4 ∧ f_X12_takesSome a S = y2 ∧ r_X12_fair_134 (f_X12_takesSome a S) (((f_X12_takesSome a S)).toInt.toNat - k134) k134 y3 T = F_X12_fair a S) (fun y2 y3 y4 y5 y6 T => ∃ (k134 k167 : Nat), k167 ≤ 5 ∧ z_i k167 = y6 ∧ k134 < ((f_X12_takesSome a S)).toInt.toNat ∧ z_i k134 = y4 ∧ f_X12_takesSome a S = y2 ∧ r_X12_fair_167 (f_X12_takesSome a S) (fun v0 V => r_X12_fair_134 (f_X12_takesSome a S) (((f_X12_takesSome a S)).toInt.toNat - (k134 + 1)) (k134 + 1) v0 V) k134 (5 - k167) k167 y3 y5 T = F_X12_fair a S) (fun v S1 => f_X12_fair a S = v ∧ g_X12_fair a S = S1) ?_ ?_ ?_ ?_ n d S ?_
  · rintro _ _ S1 ⟨k37, hkk, rfl, rfl, e⟩
    unfold D_X12_fair_37
    rcases Nat.lt_or_ge k37 (5) with hk | hk
    · rw [show 5 - k37 = (5 - (k37 + 1)) + 1 by omega, r_X12_fair_37] at e
      refine ⟨fun q1 => ?_, fun q1 => ?_⟩
      · exact absurd hk (Nat.not_lt.mpr (z_leB2 (B := 5) q1 (by decide) (by omega)))
      · intro _ _
        exact ⟨(k37 + 1), by omega, (z_i1 k37).symm, rfl, e⟩
    · rw [show 5 - k37 = 0 by omega, r_X12_fair_37] at e
      refine ⟨fun q2 => ?_, fun q2 => ?_⟩
      · exact ⟨0, by omega, rfl, rfl, e⟩
      · exact absurd hk (Nat.not_le.mpr (z_ltB2 (B := 5) q2 (by decide) (by omega)))
  · rintro _ _ S1 ⟨k57, hkk, rfl, rfl, e⟩
    unfold D_X12_fair_57
    rcases Nat.lt_or_ge k57 (((f_X12_takesSome a S)).toInt.toNat) with hk | hk
    · rw [show ((f_X12_takesSome a S)).toInt.toNat - k57 = (((f_X12_takesSome a S)).toInt.toNat - (k57 + 1)) + 1 by omega, r_X12_fair_57] at e
      refine ⟨fun q3 => ?_, fun q3 => ?_⟩
      · exact absurd hk (Nat.not_lt.mpr (z_leV q3 (by omega)))
      · refine ⟨fun q4 => ?_, fun q4 => ?_⟩
        · refine ⟨fun q5 => ?_, fun q5 => ?_⟩
          · rw [if_pos q4, if_pos q5] at e
            have e1 := congrArg Prod.fst e.symm
            have e2 := congrArg Prod.snd e.symm
            exact ⟨e1, e2⟩
          · intro _ _
            refine ⟨fun q6 => ?_, fun q6 => ?_⟩
            · rw [if_pos q4, if_neg q5, if_pos q6] at e
              have e1 := congrArg Prod.fst e.symm
              have e2 := congrArg Prod.snd e.symm
              exact ⟨e1, e2⟩
            · intro _ _
              refine ⟨fun q7 => ?_, fun q7 => ?_⟩
              · intro _ _
                intro _ _
                rw [if_pos q4, if_neg q5, if_neg q6, if_pos q7] at e
                exact ⟨(k57 + 1), by omega, (z_i1 k57).symm, rfl, e⟩
              · rw [if_pos q4, if_neg q5, if_neg q6, if_neg q7] at e
                have e1 := congrArg Prod.fst e.symm
                have e2 := congrArg Prod.snd e.symm
                exact ⟨e1, e2⟩
        · rw [if_neg q4] at e
          exact ⟨(k57 + 1), by omega, (z_i1 k57).symm, rfl, e⟩
    · rw [show ((f_X12_takesSome a S)).toInt.toNat - k57 = 0 by omega, r_X12_fair_57] at e
      refine ⟨fun q8 => ?_, fun q8 => ?_⟩
      · exact ⟨0, by omega, rfl, rfl, e⟩
      · exact absurd hk (Nat.not_le.mpr (z_ltV q8 (by omega)))
  · rintro _ x3 _ S1 ⟨k134, hkk, rfl, rfl, e⟩
    unfold D_X12_fair_134
    rcases Nat.lt_or_ge k134 (((f_X12_takesSome a S)).toInt.toNat) with hk | hk
    · rw [show ((f_X12_takesSome a S)).toInt.toNat - k134 = (((f_X12_takesSome a S)).toInt.toNat - (k134 + 1)) + 1 by omega, r_X12_fair_134] at e
      refine ⟨fun q9 => ?_, fun q9 => ?_⟩
      · exact absurd hk (Nat.not_lt.mpr (z_leV q9 (by omega)))
      · refine ⟨fun q10 => ?_, fun q10 => ?_⟩
        · rw [if_pos q10] at e
          exact ⟨k134, 0, by omega, rfl, by omega, rfl, rfl, e⟩
        · rw [if_neg q10] at e
          exact ⟨k134, 0, by omega, rfl, by omega, rfl, rfl, e⟩
    · rw [show ((f_X12_takesSome a S)).toInt.toNat - k134 = 0 by omega, r_X12_fair_134] at e
      refine ⟨fun q11 => ?_, fun q11 => ?_⟩
      · have e1 := congrArg Prod.fst e.symm
        have e2 := congrArg Prod.snd e.symm
        exact ⟨e1, e2⟩
      · exact absurd hk (Nat.not_le.mpr (z_ltV q11 (by omega)))
  · rintro _ x3 _ x5 _ S1 ⟨k134, k167, hkk, rfl, hk134, rfl, rfl, e⟩
    unfold D_X12_fair_167
    rcases Nat.lt_or_ge k167 (5) with hk | hk
    · rw [show 5 - k167 = (5 - (k167 + 1)) + 1 by omega, r_X12_fair_167] at e
      refine ⟨fun q12 => ?_, fun q12 => ?_⟩
      · exact absurd hk (Nat.not_lt.mpr (z_leB2 (B := 5) q12 (by decide) (by omega)))
      · intro _ _
        refine ⟨fun q13 => ?_, fun q13 => ?_⟩
        · rw [if_pos q13] at e
          exact ⟨k134, (k167 + 1), by omega, (z_i1 k167).symm, by omega, rfl, rfl, e⟩
        · refine ⟨fun q14 => ?_, fun q14 => ?_⟩
          · rw [if_neg q13, if_pos q14] at e
            exact ⟨k134, (k167 + 1), by omega, (z_i1 k167).symm, by omega, rfl, rfl, e⟩
          · refine ⟨fun q15 => ?_, fun q15 => ?_⟩
            · rw [if_neg q13, if_neg q14, if_pos q15] at e
              exact ⟨k134, (k167 + 1), by omega, (z_i1 k167).symm, by omega, rfl, rfl, e⟩
            · intro _ _
              intro _ _
              refine ⟨fun q16 => ?_, fun q16 => ?_⟩
              · rw [if_neg q13, if_neg q14, if_neg q15, if_pos q16] at e
                exact ⟨k134, (k167 + 1), by omega, (z_i1 k167).symm, by omega, rfl, rfl, e⟩
              · rw [if_neg q13, if_neg q14, if_neg q15, if_neg q16] at e
                exact ⟨k134, (k167 + 1), by omega, (z_i1 k167).symm, by omega, rfl, rfl, e⟩
    · rw [show 5 - k167 = 0 by omega, r_X12_fair_167] at e
      refine ⟨fun q17 => ?_, fun q17 => ?_⟩
      · exact ⟨(k134 + 1), by omega, (z_i1 k134).symm, rfl, e⟩
      · exact absurd hk (Nat.not_le.mpr (z_ltB2 (B := 5) q17 (by decide) (by omega)))
  · unfold D_X12_fair
    refine ⟨fun q18 => ?_, fun q18 => ?_⟩
    · have e : (Int32.ofInt (-1), S) = F_X12_fair a S := by rw [F_X12_fair, if_pos q18]
      have e1 := congrArg Prod.fst e.symm
      have e2 := congrArg Prod.snd e.symm
      exact ⟨e1, e2⟩
    · refine ⟨fun q19 => ?_, fun q19 => ?_⟩
      · have e : r_X12_fair_37 (f_X12_takesSome a S) (5 - 0) 0 (z_s (g_X12_takesSome a S) 99 1 (Int32.ofInt 0)) = F_X12_fair a S := by rw [F_X12_fair, if_neg q18, if_pos q19]
        exact ⟨0, by omega, rfl, rfl, e⟩
      · have e : (Int32.ofInt (-1), S) = F_X12_fair a S := by rw [F_X12_fair, if_neg q18, if_neg q19]
        have e1 := congrArg Prod.fst e.symm
        have e2 := congrArg Prod.snd e.symm
        exact ⟨e1, e2⟩
end PrtS42wd
section PrtS42xa
noncomputable abbrev m_X12_added : g_M := (g_cn 12, yX12_added, cX12_added, 5, (some .int), g_look2 ttX12_added)
set_option maxRecDepth 20000 in
theorem mt_X12_added : g_mt 292 = some m_X12_added := rfl
end PrtS42xa
section PrtS42xb
noncomputable abbrev m_X11_from : g_M := (g_cn 11, yX11_from, cX11_from, 5, (some .int), g_look2 ttX11_from)
set_option maxRecDepth 20000 in
theorem mt_X11_from : g_mt 137 = some m_X11_from := rfl
noncomputable abbrev m_X12_from : g_M := (g_cn 12, yX12_from, cX12_from, 8, (some .int), g_look2 ttX12_from)
set_option maxRecDepth 20000 in
theorem mt_X12_from : g_mt 269 = some m_X12_from := rfl
end PrtS42xb
section PrtS42xc
noncomputable abbrev m_X11_taught : g_M := (g_cn 11, yX11_taught, cX11_taught, 5, (some .int), g_look2 ttX11_taught)
set_option maxRecDepth 20000 in
theorem mt_X11_taught : g_mt 138 = some m_X11_taught := rfl
end PrtS42xc
