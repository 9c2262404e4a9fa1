-- 29.all
set_option maxRecDepth 100000 in
theorem q_Tall : q_allP (fun M => q_mB1 q_T M = true) q_TR := ⟨⟨⟨⟨⟨⟨⟨q_c0, ⟨q_c1, q_c2⟩⟩, ⟨q_c3, ⟨q_c4, q_c6⟩⟩⟩, ⟨⟨q_c7, ⟨q_c8, q_c10⟩⟩, ⟨q_c14, ⟨q_c16, q_c17⟩⟩⟩⟩, ⟨⟨⟨q_c20, ⟨q_c21, q_c24⟩⟩, ⟨q_c25, ⟨q_c33, q_c34⟩⟩⟩, ⟨⟨q_c36, ⟨q_c37, q_c39⟩⟩, ⟨q_c40, ⟨q_c41, q_c42⟩⟩⟩⟩⟩, ⟨⟨⟨⟨q_c43, ⟨q_c46, q_c47⟩⟩, ⟨q_c48, ⟨q_c49, q_c50⟩⟩⟩, ⟨⟨q_c51, ⟨q_c53, q_c57⟩⟩, ⟨q_c59, ⟨q_c60, q_c64⟩⟩⟩⟩, ⟨⟨⟨q_c65, ⟨q_c69, q_c77⟩⟩, ⟨q_c78, ⟨q_c79, q_c80⟩⟩⟩, ⟨⟨q_c81, ⟨q_c100, q_c101⟩⟩, ⟨⟨q_c102, q_c109⟩, ⟨q_c110, q_c111⟩⟩⟩⟩⟩⟩, ⟨⟨⟨⟨⟨q_c112, ⟨q_c113, q_c114⟩⟩, ⟨q_c115, ⟨q_c116, q_c117⟩⟩⟩, ⟨⟨q_c119, ⟨q_c120, q_c121⟩⟩, ⟨q_c122, ⟨q_c123, q_c124⟩⟩⟩⟩, ⟨⟨⟨q_c125, ⟨q_c126, q_c127⟩⟩, ⟨q_c128, ⟨q_c129, q_c130⟩⟩⟩, ⟨⟨q_c131, ⟨q_c132, q_c133⟩⟩, ⟨q_c134, ⟨q_c135, q_c136⟩⟩⟩⟩⟩, ⟨⟨⟨⟨q_c137, ⟨q_c138, q_c139⟩⟩, ⟨q_c140, ⟨q_c141, q_c142⟩⟩⟩, ⟨⟨q_c143, ⟨q_c144, q_c145⟩⟩, ⟨q_c146, ⟨q_c147, q_c148⟩⟩⟩⟩, ⟨⟨⟨q_c149, ⟨q_c150, q_c151⟩⟩, ⟨q_c152, ⟨q_c153, q_c154⟩⟩⟩, ⟨⟨q_c155, ⟨q_c156, q_c157⟩⟩, ⟨⟨q_c158, q_c159⟩, ⟨q_c162, q_c163⟩⟩⟩⟩⟩⟩⟩, ⟨⟨⟨⟨⟨⟨q_c164, ⟨q_c165, q_c166⟩⟩, ⟨q_c167, ⟨q_c168, q_c169⟩⟩⟩, ⟨⟨q_c170, ⟨q_c171, q_c172⟩⟩, ⟨q_c173, ⟨q_c175, q_c176⟩⟩⟩⟩, ⟨⟨⟨q_c177, ⟨q_c178, q_c179⟩⟩, ⟨q_c180, ⟨q_c181, q_c182⟩⟩⟩, ⟨⟨q_c183, ⟨q_c186, q_c187⟩⟩, ⟨q_c188, ⟨q_c189, q_c190⟩⟩⟩⟩⟩, ⟨⟨⟨⟨q_c191, ⟨q_c193, q_c198⟩⟩, ⟨q_c199, ⟨q_c200, q_c201⟩⟩⟩, ⟨⟨q_c202, ⟨q_c203, q_c217⟩⟩, ⟨q_c218, ⟨q_c219, q_c220⟩⟩⟩⟩, ⟨⟨⟨q_c221, ⟨q_c222, q_c223⟩⟩, ⟨q_c224, ⟨q_c225, q_c226⟩⟩⟩, ⟨⟨q_c231, ⟨q_c234, q_c235⟩⟩, ⟨⟨q_c236, q_c243⟩, ⟨q_c247, q_c248⟩⟩⟩⟩⟩⟩, ⟨⟨⟨⟨⟨q_c250, ⟨q_c251, q_c252⟩⟩, ⟨q_c253, ⟨q_c254, q_c255⟩⟩⟩, ⟨⟨q_c256, ⟨q_c257, q_c258⟩⟩, ⟨q_c259, ⟨q_c260, q_c261⟩⟩⟩⟩, ⟨⟨⟨q_c262, ⟨q_c263, q_c266⟩⟩, ⟨q_c268, ⟨q_c270, q_c271⟩⟩⟩, ⟨⟨q_c272, ⟨q_c273, q_c274⟩⟩, ⟨⟨q_c275, q_c276⟩, ⟨q_c278, q_c279⟩⟩⟩⟩⟩, ⟨⟨⟨⟨q_c280, ⟨q_c281, q_c283⟩⟩, ⟨q_c287, ⟨q_c289, q_c290⟩⟩⟩, ⟨⟨q_c292, ⟨q_c293, q_c294⟩⟩, ⟨q_c295, ⟨q_c296, q_c297⟩⟩⟩⟩, ⟨⟨⟨q_c298, ⟨q_c299, q_c307⟩⟩, ⟨q_c308, ⟨q_c309, q_c311⟩⟩⟩, ⟨⟨q_c312, ⟨q_c313, q_c314⟩⟩, ⟨⟨q_c316, q_c318⟩, ⟨q_c320, q_c321⟩⟩⟩⟩⟩⟩⟩⟩
theorem q_clsAll_ok : q_clsAll := by
  intro k r h
  match k, h with
  | 0, h => cases h; exact ⟨by decide +kernel, ⟨_, tyX0_ok⟩, nmX0⟩
  | 1, h => cases h; exact ⟨by decide +kernel, ⟨_, tyX1_ok⟩, nmX1⟩
  | 2, h => cases h; exact ⟨by decide +kernel, ⟨_, tyX2_ok⟩, nmX2⟩
  | 3, h => cases h; exact ⟨by decide +kernel, ⟨_, tyX3_ok⟩, nmX3⟩
  | 4, h => cases h; exact ⟨by decide +kernel, ⟨_, tyX4_ok⟩, nmX4⟩
  | 5, h => cases h; exact ⟨by decide +kernel, ⟨_, tyX5_ok⟩, nmX5⟩
  | 6, h => cases h; exact ⟨by decide +kernel, ⟨_, tyX6_ok⟩, nmX6⟩
  | 7, h => cases h; exact ⟨by decide +kernel, ⟨_, tyX7_ok⟩, nmX7⟩
  | 8, h => cases h; exact ⟨by decide +kernel, ⟨_, tyX8_ok⟩, nmX8⟩
  | 9, h => cases h; exact ⟨by decide +kernel, ⟨_, tyX9_ok⟩, nmX9⟩
  | 10, h => cases h; exact ⟨by decide +kernel, ⟨_, tyX10_ok⟩, nmX10⟩
  | 11, h => cases h; exact ⟨by decide +kernel, ⟨_, tyX11_ok⟩, nmX11⟩
  | k + 12, h => exact absurd (List.getElem?_eq_some_iff.mp h).1 (by show ¬ (k + 12 < 12); omega)
theorem q_T_ok : q_tabOk q_T := q_tab_of q_clsAll_ok q_Tall
