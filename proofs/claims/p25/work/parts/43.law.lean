def fn_L_aged (dd : Nat → Int32) (a2 : Int32) (x : mm_M) : Option Int32 :=
  (some (((8 : Int32) * a2) : Int32)).bind fun v1 => if (v1 + 5) < 0 ∨ 64 ≤ Int32.toNatClampNeg (v1 + 5) then none else (fn_X4_count 10 x).bind fun v2 => if ((dd (Int32.toNatClampNeg (v1 + 5))) + 1) < v2 then if (v1 + 2) < 0 ∨ 64 ≤ Int32.toNatClampNeg (v1 + 2) then none else (some ((dd (Int32.toNatClampNeg (v1 + 2))) : Int32)).bind fun v3 => if (v1 + 3) < 0 ∨ 64 ≤ Int32.toNatClampNeg (v1 + 3) then none else if (dd (Int32.toNatClampNeg (v1 + 3))) = 1 then if (v1 + 4) < 0 ∨ 64 ≤ Int32.toNatClampNeg (v1 + 4) then none else (fn_X4_count 13 x).bind fun v34 => if ((dd (Int32.toNatClampNeg (v1 + 4))) + 1) < v34 then if (v1 + 3) < 0 ∨ 64 ≤ Int32.toNatClampNeg (v1 + 3) then none else (fn_X4_count 12 x).bind fun v35 => if v3 < v35 then (fn_X4_count 12 x).bind fun v36 => if v3 < v36 then (fn_X4_of a2 2 x).bind fun v37 => if v37 = v3 then (fn_X4_of a2 5 x).bind fun v38 => if (v1 + 5) < 0 ∨ 64 ≤ Int32.toNatClampNeg (v1 + 5) then none else if v38 = ((dd (Int32.toNatClampNeg (v1 + 5))) + 1) then (fn_X4_of a2 3 x).bind fun v39 => if v39 = 0 then (fn_X4_of a2 4 x).bind fun v40 => if v40 = 0 then (fn_X4_of a2 0 x).bind fun v41 => if v1 < 0 ∨ 64 ≤ Int32.toNatClampNeg v1 then none else if v41 = (dd (Int32.toNatClampNeg v1)) then (fn_X4_of a2 1 x).bind fun v42 => if (v1 + 1) < 0 ∨ 64 ≤ Int32.toNatClampNeg (v1 + 1) then none else if v42 = (dd (Int32.toNatClampNeg (v1 + 1))) then some (1 : Int32) else none else none else none else none else none else none else (fn_X4_count 12 x).bind fun v43 => (some ((v43 - 1) : Int32)).bind fun v44 => (fn_X4_of a2 2 x).bind fun v45 => if v45 = v44 then (fn_X4_of a2 5 x).bind fun v46 => if (v1 + 5) < 0 ∨ 64 ≤ Int32.toNatClampNeg (v1 + 5) then none else if v46 = ((dd (Int32.toNatClampNeg (v1 + 5))) + 1) then (fn_X4_of a2 3 x).bind fun v47 => if v47 = 0 then (fn_X4_of a2 4 x).bind fun v48 => if v48 = 0 then (fn_X4_of a2 0 x).bind fun v49 => if v1 < 0 ∨ 64 ≤ Int32.toNatClampNeg v1 then none else if v49 = (dd (Int32.toNatClampNeg v1)) then (fn_X4_of a2 1 x).bind fun v50 => if (v1 + 1) < 0 ∨ 64 ≤ Int32.toNatClampNeg (v1 + 1) then none else if v50 = (dd (Int32.toNatClampNeg (v1 + 1))) then some (1 : Int32) else none else none else none else none else none else none else (fn_X4_of a2 2 x).bind fun v51 => if v51 = v3 then (fn_X4_of a2 5 x).bind fun v52 => if (v1 + 5) < 0 ∨ 64 ≤ Int32.toNatClampNeg (v1 + 5) then none else if v52 = ((dd (Int32.toNatClampNeg (v1 + 5))) + 1) then (fn_X4_of a2 3 x).bind fun v53 => if (v1 + 3) < 0 ∨ 64 ≤ Int32.toNatClampNeg (v1 + 3) then none else if v53 = (dd (Int32.toNatClampNeg (v1 + 3))) then (fn_X4_of a2 4 x).bind fun v54 => if (v1 + 3) < 0 ∨ 64 ≤ Int32.toNatClampNeg (v1 + 3) then none else if (v1 + 4) < 0 ∨ 64 ≤ Int32.toNatClampNeg (v1 + 4) then none else if v54 = ((dd (Int32.toNatClampNeg (v1 + 4))) + 1) then (fn_X4_of a2 0 x).bind fun v55 => if v1 < 0 ∨ 64 ≤ Int32.toNatClampNeg v1 then none else if v55 = (dd (Int32.toNatClampNeg v1)) then (fn_X4_of a2 1 x).bind fun v56 => if (v1 + 1) < 0 ∨ 64 ≤ Int32.toNatClampNeg (v1 + 1) then none else if v56 = (dd (Int32.toNatClampNeg (v1 + 1))) then some (1 : Int32) else none else none else none else none else none else none else if (v1 + 3) < 0 ∨ 64 ≤ Int32.toNatClampNeg (v1 + 3) then none else (fn_X4_count 12 x).bind fun v57 => if v3 < v57 then (fn_X4_count 12 x).bind fun v58 => if v3 < v58 then (fn_X4_of a2 2 x).bind fun v59 => if v59 = v3 then (fn_X4_of a2 5 x).bind fun v60 => if (v1 + 5) < 0 ∨ 64 ≤ Int32.toNatClampNeg (v1 + 5) then none else if v60 = ((dd (Int32.toNatClampNeg (v1 + 5))) + 1) then (fn_X4_of a2 3 x).bind fun v61 => if v61 = 0 then (fn_X4_of a2 4 x).bind fun v62 => if v62 = 0 then (fn_X4_of a2 0 x).bind fun v63 => if v1 < 0 ∨ 64 ≤ Int32.toNatClampNeg v1 then none else if v63 = (dd (Int32.toNatClampNeg v1)) then (fn_X4_of a2 1 x).bind fun v64 => if (v1 + 1) < 0 ∨ 64 ≤ Int32.toNatClampNeg (v1 + 1) then none else if v64 = (dd (Int32.toNatClampNeg (v1 + 1))) then some (1 : Int32) else none else none else none else none else none else none else (fn_X4_count 12 x).bind fun v65 => (some ((v65 - 1) : Int32)).bind fun v66 => (fn_X4_of a2 2 x).bind fun v67 => if v67 = v66 then (fn_X4_of a2 5 x).bind fun v68 => if (v1 + 5) < 0 ∨ 64 ≤ Int32.toNatClampNeg (v1 + 5) then none else if v68 = ((dd (Int32.toNatClampNeg (v1 + 5))) + 1) then (fn_X4_of a2 3 x).bind fun v69 => if v69 = 0 then (fn_X4_of a2 4 x).bind fun v70 => if v70 = 0 then (fn_X4_of a2 0 x).bind fun v71 => if v1 < 0 ∨ 64 ≤ Int32.toNatClampNeg v1 then none else if v71 = (dd (Int32.toNatClampNeg v1)) then (fn_X4_of a2 1 x).bind fun v72 => if (v1 + 1) < 0 ∨ 64 ≤ Int32.toNatClampNeg (v1 + 1) then none else if v72 = (dd (Int32.toNatClampNeg (v1 + 1))) then some (1 : Int32) else none else none else none else none else none else none else (fn_X4_count 12 x).bind fun v73 => if v3 < v73 then (fn_X4_of a2 2 x).bind fun v74 => if v74 = v3 then (fn_X4_of a2 5 x).bind fun v75 => if (v1 + 5) < 0 ∨ 64 ≤ Int32.toNatClampNeg (v1 + 5) then none else if v75 = ((dd (Int32.toNatClampNeg (v1 + 5))) + 1) then (fn_X4_of a2 3 x).bind fun v76 => if v76 = 0 then (fn_X4_of a2 4 x).bind fun v77 => if v77 = 0 then (fn_X4_of a2 0 x).bind fun v78 => if v1 < 0 ∨ 64 ≤ Int32.toNatClampNeg v1 then none else if v78 = (dd (Int32.toNatClampNeg v1)) then (fn_X4_of a2 1 x).bind fun v79 => if (v1 + 1) < 0 ∨ 64 ≤ Int32.toNatClampNeg (v1 + 1) then none else if v79 = (dd (Int32.toNatClampNeg (v1 + 1))) then some (1 : Int32) else none else none else none else none else none else none else (fn_X4_count 12 x).bind fun v80 => (some ((v80 - 1) : Int32)).bind fun v81 => (fn_X4_of a2 2 x).bind fun v82 => if v82 = v81 then (fn_X4_of a2 5 x).bind fun v83 => if (v1 + 5) < 0 ∨ 64 ≤ Int32.toNatClampNeg (v1 + 5) then none else if v83 = ((dd (Int32.toNatClampNeg (v1 + 5))) + 1) then (fn_X4_of a2 3 x).bind fun v84 => if v84 = 0 then (fn_X4_of a2 4 x).bind fun v85 => if v85 = 0 then (fn_X4_of a2 0 x).bind fun v86 => if v1 < 0 ∨ 64 ≤ Int32.toNatClampNeg v1 then none else if v86 = (dd (Int32.toNatClampNeg v1)) then (fn_X4_of a2 1 x).bind fun v87 => if (v1 + 1) < 0 ∨ 64 ≤ Int32.toNatClampNeg (v1 + 1) then none else if v87 = (dd (Int32.toNatClampNeg (v1 + 1))) then some (1 : Int32) else none else none else none else none else none else none else if (v1 + 3) < 0 ∨ 64 ≤ Int32.toNatClampNeg (v1 + 3) then none else if (dd (Int32.toNatClampNeg (v1 + 3))) = 1 then (fn_X4_count 12 x).bind fun v12 => if v3 < v12 then (fn_X4_count 12 x).bind fun v13 => if v3 < v13 then (fn_X4_of a2 2 x).bind fun v14 => if v14 = v3 then (fn_X4_of a2 5 x).bind fun v15 => if (v1 + 5) < 0 ∨ 64 ≤ Int32.toNatClampNeg (v1 + 5) then none else if v15 = ((dd (Int32.toNatClampNeg (v1 + 5))) + 1) then (fn_X4_of a2 3 x).bind fun v16 => if v16 = 0 then (fn_X4_of a2 4 x).bind fun v17 => if v17 = 0 then (fn_X4_of a2 0 x).bind fun v18 => if v1 < 0 ∨ 64 ≤ Int32.toNatClampNeg v1 then none else if v18 = (dd (Int32.toNatClampNeg v1)) then (fn_X4_of a2 1 x).bind fun v19 => if (v1 + 1) < 0 ∨ 64 ≤ Int32.toNatClampNeg (v1 + 1) then none else if v19 = (dd (Int32.toNatClampNeg (v1 + 1))) then some (1 : Int32) else none else none else none else none else none else none else (fn_X4_count 12 x).bind fun v20 => (some ((v20 - 1) : Int32)).bind fun v21 => (fn_X4_of a2 2 x).bind fun v22 => if v22 = v21 then (fn_X4_of a2 5 x).bind fun v23 => if (v1 + 5) < 0 ∨ 64 ≤ Int32.toNatClampNeg (v1 + 5) then none else if v23 = ((dd (Int32.toNatClampNeg (v1 + 5))) + 1) then (fn_X4_of a2 3 x).bind fun v24 => if v24 = 0 then (fn_X4_of a2 4 x).bind fun v25 => if v25 = 0 then (fn_X4_of a2 0 x).bind fun v26 => if v1 < 0 ∨ 64 ≤ Int32.toNatClampNeg v1 then none else if v26 = (dd (Int32.toNatClampNeg v1)) then (fn_X4_of a2 1 x).bind fun v27 => if (v1 + 1) < 0 ∨ 64 ≤ Int32.toNatClampNeg (v1 + 1) then none else if v27 = (dd (Int32.toNatClampNeg (v1 + 1))) then some (1 : Int32) else none else none else none else none else none else none else (fn_X4_of a2 2 x).bind fun v28 => if v28 = v3 then (fn_X4_of a2 5 x).bind fun v29 => if (v1 + 5) < 0 ∨ 64 ≤ Int32.toNatClampNeg (v1 + 5) then none else if v29 = ((dd (Int32.toNatClampNeg (v1 + 5))) + 1) then (fn_X4_of a2 3 x).bind fun v30 => if (v1 + 3) < 0 ∨ 64 ≤ Int32.toNatClampNeg (v1 + 3) then none else if v30 = (dd (Int32.toNatClampNeg (v1 + 3))) then (fn_X4_of a2 4 x).bind fun v31 => if (v1 + 3) < 0 ∨ 64 ≤ Int32.toNatClampNeg (v1 + 3) then none else if (v1 + 4) < 0 ∨ 64 ≤ Int32.toNatClampNeg (v1 + 4) then none else if v31 = ((dd (Int32.toNatClampNeg (v1 + 4))) + 1) then (fn_X4_of a2 0 x).bind fun v32 => if v1 < 0 ∨ 64 ≤ Int32.toNatClampNeg v1 then none else if v32 = (dd (Int32.toNatClampNeg v1)) then (fn_X4_of a2 1 x).bind fun v33 => if (v1 + 1) < 0 ∨ 64 ≤ Int32.toNatClampNeg (v1 + 1) then none else if v33 = (dd (Int32.toNatClampNeg (v1 + 1))) then some (1 : Int32) else none else none else none else none else none else none else (fn_X4_of a2 2 x).bind fun v4 => if v4 = v3 then (fn_X4_of a2 5 x).bind fun v5 => if (v1 + 5) < 0 ∨ 64 ≤ Int32.toNatClampNeg (v1 + 5) then none else if v5 = ((dd (Int32.toNatClampNeg (v1 + 5))) + 1) then (fn_X4_of a2 3 x).bind fun v6 => if (v1 + 3) < 0 ∨ 64 ≤ Int32.toNatClampNeg (v1 + 3) then none else if v6 = (dd (Int32.toNatClampNeg (v1 + 3))) then (fn_X4_of a2 4 x).bind fun v7 => if (v1 + 3) < 0 ∨ 64 ≤ Int32.toNatClampNeg (v1 + 3) then none else if (dd (Int32.toNatClampNeg (v1 + 3))) = 0 then if v7 = 0 then (fn_X4_of a2 0 x).bind fun v10 => if v1 < 0 ∨ 64 ≤ Int32.toNatClampNeg v1 then none else if v10 = (dd (Int32.toNatClampNeg v1)) then (fn_X4_of a2 1 x).bind fun v11 => if (v1 + 1) < 0 ∨ 64 ≤ Int32.toNatClampNeg (v1 + 1) then none else if v11 = (dd (Int32.toNatClampNeg (v1 + 1))) then some (1 : Int32) else none else none else none else if (v1 + 4) < 0 ∨ 64 ≤ Int32.toNatClampNeg (v1 + 4) then none else if v7 = ((dd (Int32.toNatClampNeg (v1 + 4))) + 1) then (fn_X4_of a2 0 x).bind fun v8 => if v1 < 0 ∨ 64 ≤ Int32.toNatClampNeg v1 then none else if v8 = (dd (Int32.toNatClampNeg v1)) then (fn_X4_of a2 1 x).bind fun v9 => if (v1 + 1) < 0 ∨ 64 ≤ Int32.toNatClampNeg (v1 + 1) then none else if v9 = (dd (Int32.toNatClampNeg (v1 + 1))) then some (1 : Int32) else none else none else none else none else none else none else if (v1 + 2) < 0 ∨ 64 ≤ Int32.toNatClampNeg (v1 + 2) then none else (some (((dd (Int32.toNatClampNeg (v1 + 2))) / 2) : Int32)).bind fun v88 => if (v1 + 3) < 0 ∨ 64 ≤ Int32.toNatClampNeg (v1 + 3) then none else if (dd (Int32.toNatClampNeg (v1 + 3))) = 1 then if (v1 + 4) < 0 ∨ 64 ≤ Int32.toNatClampNeg (v1 + 4) then none else (fn_X4_count 13 x).bind fun v119 => if ((dd (Int32.toNatClampNeg (v1 + 4))) + 1) < v119 then if (v1 + 3) < 0 ∨ 64 ≤ Int32.toNatClampNeg (v1 + 3) then none else (fn_X4_count 12 x).bind fun v120 => if v88 < v120 then (fn_X4_count 12 x).bind fun v121 => if v88 < v121 then (fn_X4_of a2 2 x).bind fun v122 => if v122 = v88 then (fn_X4_of a2 5 x).bind fun v123 => if v123 = 0 then (fn_X4_of a2 3 x).bind fun v124 => if v124 = 0 then (fn_X4_of a2 4 x).bind fun v125 => if v125 = 0 then (fn_X4_of a2 0 x).bind fun v126 => if v1 < 0 ∨ 64 ≤ Int32.toNatClampNeg v1 then none else if v126 = (dd (Int32.toNatClampNeg v1)) then (fn_X4_of a2 1 x).bind fun v127 => if (v1 + 1) < 0 ∨ 64 ≤ Int32.toNatClampNeg (v1 + 1) then none else if v127 = (dd (Int32.toNatClampNeg (v1 + 1))) then some (1 : Int32) else none else none else none else none else none else none else (fn_X4_count 12 x).bind fun v128 => (some ((v128 - 1) : Int32)).bind fun v129 => (fn_X4_of a2 2 x).bind fun v130 => if v130 = v129 then (fn_X4_of a2 5 x).bind fun v131 => if v131 = 0 then (fn_X4_of a2 3 x).bind fun v132 => if v132 = 0 then (fn_X4_of a2 4 x).bind fun v133 => if v133 = 0 then (fn_X4_of a2 0 x).bind fun v134 => if v1 < 0 ∨ 64 ≤ Int32.toNatClampNeg v1 then none else if v134 = (dd (Int32.toNatClampNeg v1)) then (fn_X4_of a2 1 x).bind fun v135 => if (v1 + 1) < 0 ∨ 64 ≤ Int32.toNatClampNeg (v1 + 1) then none else if v135 = (dd (Int32.toNatClampNeg (v1 + 1))) then some (1 : Int32) else none else none else none else none else none else none else (fn_X4_of a2 2 x).bind fun v136 => if v136 = v88 then (fn_X4_of a2 5 x).bind fun v137 => if v137 = 0 then (fn_X4_of a2 3 x).bind fun v138 => if (v1 + 3) < 0 ∨ 64 ≤ Int32.toNatClampNeg (v1 + 3) then none else if v138 = (dd (Int32.toNatClampNeg (v1 + 3))) then (fn_X4_of a2 4 x).bind fun v139 => if (v1 + 3) < 0 ∨ 64 ≤ Int32.toNatClampNeg (v1 + 3) then none else if (v1 + 4) < 0 ∨ 64 ≤ Int32.toNatClampNeg (v1 + 4) then none else if v139 = ((dd (Int32.toNatClampNeg (v1 + 4))) + 1) then (fn_X4_of a2 0 x).bind fun v140 => if v1 < 0 ∨ 64 ≤ Int32.toNatClampNeg v1 then none else if v140 = (dd (Int32.toNatClampNeg v1)) then (fn_X4_of a2 1 x).bind fun v141 => if (v1 + 1) < 0 ∨ 64 ≤ Int32.toNatClampNeg (v1 + 1) then none else if v141 = (dd (Int32.toNatClampNeg (v1 + 1))) then some (1 : Int32) else none else none else none else none else none else none else if (v1 + 3) < 0 ∨ 64 ≤ Int32.toNatClampNeg (v1 + 3) then none else (fn_X4_count 12 x).bind fun v142 => if v88 < v142 then (fn_X4_count 12 x).bind fun v143 => if v88 < v143 then (fn_X4_of a2 2 x).bind fun v144 => if v144 = v88 then (fn_X4_of a2 5 x).bind fun v145 => if v145 = 0 then (fn_X4_of a2 3 x).bind fun v146 => if v146 = 0 then (fn_X4_of a2 4 x).bind fun v147 => if v147 = 0 then (fn_X4_of a2 0 x).bind fun v148 => if v1 < 0 ∨ 64 ≤ Int32.toNatClampNeg v1 then none else if v148 = (dd (Int32.toNatClampNeg v1)) then (fn_X4_of a2 1 x).bind fun v149 => if (v1 + 1) < 0 ∨ 64 ≤ Int32.toNatClampNeg (v1 + 1) then none else if v149 = (dd (Int32.toNatClampNeg (v1 + 1))) then some (1 : Int32) else none else none else none else none else none else none else (fn_X4_count 12 x).bind fun v150 => (some ((v150 - 1) : Int32)).bind fun v151 => (fn_X4_of a2 2 x).bind fun v152 => if v152 = v151 then (fn_X4_of a2 5 x).bind fun v153 => if v153 = 0 then (fn_X4_of a2 3 x).bind fun v154 => if v154 = 0 then (fn_X4_of a2 4 x).bind fun v155 => if v155 = 0 then (fn_X4_of a2 0 x).bind fun v156 => if v1 < 0 ∨ 64 ≤ Int32.toNatClampNeg v1 then none else if v156 = (dd (Int32.toNatClampNeg v1)) then (fn_X4_of a2 1 x).bind fun v157 => if (v1 + 1) < 0 ∨ 64 ≤ Int32.toNatClampNeg (v1 + 1) then none else if v157 = (dd (Int32.toNatClampNeg (v1 + 1))) then some (1 : Int32) else none else none else none else none else none else none else (fn_X4_count 12 x).bind fun v158 => if v88 < v158 then (fn_X4_of a2 2 x).bind fun v159 => if v159 = v88 then (fn_X4_of a2 5 x).bind fun v160 => if v160 = 0 then (fn_X4_of a2 3 x).bind fun v161 => if v161 = 0 then (fn_X4_of a2 4 x).bind fun v162 => if v162 = 0 then (fn_X4_of a2 0 x).bind fun v163 => if v1 < 0 ∨ 64 ≤ Int32.toNatClampNeg v1 then none else if v163 = (dd (Int32.toNatClampNeg v1)) then (fn_X4_of a2 1 x).bind fun v164 => if (v1 + 1) < 0 ∨ 64 ≤ Int32.toNatClampNeg (v1 + 1) then none else if v164 = (dd (Int32.toNatClampNeg (v1 + 1))) then some (1 : Int32) else none else none else none else none else none else none else (fn_X4_count 12 x).bind fun v165 => (some ((v165 - 1) : Int32)).bind fun v166 => (fn_X4_of a2 2 x).bind fun v167 => if v167 = v166 then (fn_X4_of a2 5 x).bind fun v168 => if v168 = 0 then (fn_X4_of a2 3 x).bind fun v169 => if v169 = 0 then (fn_X4_of a2 4 x).bind fun v170 => if v170 = 0 then (fn_X4_of a2 0 x).bind fun v171 => if v1 < 0 ∨ 64 ≤ Int32.toNatClampNeg v1 then none else if v171 = (dd (Int32.toNatClampNeg v1)) then (fn_X4_of a2 1 x).bind fun v172 => if (v1 + 1) < 0 ∨ 64 ≤ Int32.toNatClampNeg (v1 + 1) then none else if v172 = (dd (Int32.toNatClampNeg (v1 + 1))) then some (1 : Int32) else none else none else none else none else none else none else if (v1 + 3) < 0 ∨ 64 ≤ Int32.toNatClampNeg (v1 + 3) then none else if (dd (Int32.toNatClampNeg (v1 + 3))) = 1 then (fn_X4_count 12 x).bind fun v97 => if v88 < v97 then (fn_X4_count 12 x).bind fun v98 => if v88 < v98 then (fn_X4_of a2 2 x).bind fun v99 => if v99 = v88 then (fn_X4_of a2 5 x).bind fun v100 => if v100 = 0 then (fn_X4_of a2 3 x).bind fun v101 => if v101 = 0 then (fn_X4_of a2 4 x).bind fun v102 => if v102 = 0 then (fn_X4_of a2 0 x).bind fun v103 => if v1 < 0 ∨ 64 ≤ Int32.toNatClampNeg v1 then none else if v103 = (dd (Int32.toNatClampNeg v1)) then (fn_X4_of a2 1 x).bind fun v104 => if (v1 + 1) < 0 ∨ 64 ≤ Int32.toNatClampNeg (v1 + 1) then none else if v104 = (dd (Int32.toNatClampNeg (v1 + 1))) then some (1 : Int32) else none else none else none else none else none else none else (fn_X4_count 12 x).bind fun v105 => (some ((v105 - 1) : Int32)).bind fun v106 => (fn_X4_of a2 2 x).bind fun v107 => if v107 = v106 then (fn_X4_of a2 5 x).bind fun v108 => if v108 = 0 then (fn_X4_of a2 3 x).bind fun v109 => if v109 = 0 then (fn_X4_of a2 4 x).bind fun v110 => if v110 = 0 then (fn_X4_of a2 0 x).bind fun v111 => if v1 < 0 ∨ 64 ≤ Int32.toNatClampNeg v1 then none else if v111 = (dd (Int32.toNatClampNeg v1)) then (fn_X4_of a2 1 x).bind fun v112 => if (v1 + 1) < 0 ∨ 64 ≤ Int32.toNatClampNeg (v1 + 1) then none else if v112 = (dd (Int32.toNatClampNeg (v1 + 1))) then some (1 : Int32) else none else none else none else none else none else none else (fn_X4_of a2 2 x).bind fun v113 => if v113 = v88 then (fn_X4_of a2 5 x).bind fun v114 => if v114 = 0 then (fn_X4_of a2 3 x).bind fun v115 => if (v1 + 3) < 0 ∨ 64 ≤ Int32.toNatClampNeg (v1 + 3) then none else if v115 = (dd (Int32.toNatClampNeg (v1 + 3))) then (fn_X4_of a2 4 x).bind fun v116 => if (v1 + 3) < 0 ∨ 64 ≤ Int32.toNatClampNeg (v1 + 3) then none else if (v1 + 4) < 0 ∨ 64 ≤ Int32.toNatClampNeg (v1 + 4) then none else if v116 = ((dd (Int32.toNatClampNeg (v1 + 4))) + 1) then (fn_X4_of a2 0 x).bind fun v117 => if v1 < 0 ∨ 64 ≤ Int32.toNatClampNeg v1 then none else if v117 = (dd (Int32.toNatClampNeg v1)) then (fn_X4_of a2 1 x).bind fun v118 => if (v1 + 1) < 0 ∨ 64 ≤ Int32.toNatClampNeg (v1 + 1) then none else if v118 = (dd (Int32.toNatClampNeg (v1 + 1))) then some (1 : Int32) else none else none else none else none else none else none else (fn_X4_of a2 2 x).bind fun v89 => if v89 = v88 then (fn_X4_of a2 5 x).bind fun v90 => if v90 = 0 then (fn_X4_of a2 3 x).bind fun v91 => if (v1 + 3) < 0 ∨ 64 ≤ Int32.toNatClampNeg (v1 + 3) then none else if v91 = (dd (Int32.toNatClampNeg (v1 + 3))) then (fn_X4_of a2 4 x).bind fun v92 => if (v1 + 3) < 0 ∨ 64 ≤ Int32.toNatClampNeg (v1 + 3) then none else if (dd (Int32.toNatClampNeg (v1 + 3))) = 0 then if v92 = 0 then (fn_X4_of a2 0 x).bind fun v95 => if v1 < 0 ∨ 64 ≤ Int32.toNatClampNeg v1 then none else if v95 = (dd (Int32.toNatClampNeg v1)) then (fn_X4_of a2 1 x).bind fun v96 => if (v1 + 1) < 0 ∨ 64 ≤ Int32.toNatClampNeg (v1 + 1) then none else if v96 = (dd (Int32.toNatClampNeg (v1 + 1))) then some (1 : Int32) else none else none else none else if (v1 + 4) < 0 ∨ 64 ≤ Int32.toNatClampNeg (v1 + 4) then none else if v92 = ((dd (Int32.toNatClampNeg (v1 + 4))) + 1) then (fn_X4_of a2 0 x).bind fun v93 => if v1 < 0 ∨ 64 ≤ Int32.toNatClampNeg v1 then none else if v93 = (dd (Int32.toNatClampNeg v1)) then (fn_X4_of a2 1 x).bind fun v94 => if (v1 + 1) < 0 ∨ 64 ≤ Int32.toNatClampNeg (v1 + 1) then none else if v94 = (dd (Int32.toNatClampNeg (v1 + 1))) then some (1 : Int32) else none else none else none else none else none else none
abbrev rm_L_aged : Room := { frames := 3, cells := 0, slots := 0, locals := 64 }
theorem df_L_aged : yL_aged.cls = RL ∧ yL_aged.cls ≠ "java/lang/invoke/MethodHandle" ∧ yL_aged.cls ≠ "java/lang/invoke/VarHandle" ∧ (parseMethodDescriptor yL_aged.desc).map (fun d => d.parameters.length) = some 3 := by decide +kernel
set_option maxRecDepth 100000 in
set_option maxHeartbeats 4000000 in
theorem ct_L_aged (l : Launch) (G : va_G) (T : Nat → ClassId) (b : Nat) (z : Nat → Nat) (ad : Nat) (dd : Nat → Int32) (a2 : Int32) (x : mm_M) {r : Int32} (h : fn_L_aged dd a2 x = some r) : mm_CiD l yL_aged wsL_aged rm_L_aged G T b z ad dd [.ref (b + 0), .ref ad, .int a2] x r x := by
  unfold fn_L_aged at h
  refine md_start (cc := cL_aged) (maxL := 9) (ret := (some .boolean)) (by decide) rfl (Nat.le_of_ble_eq_true rfl) (fun p e s m below meth c ls C hr hlk hH hl => ?_)
  have hl : lv_has ls 9 [(0, .ref (b + 0)), (1, .ref ad), (2, .int a2)] := hl
  have hx := C.1
  have hb := C.2.1
  have hA := mm_AAr (b := b)
  refine lv_bipush (v := 8) hx hb dL_aged_0 (by decide) ?_
  refine lv_iload_n hx hb dL_aged_2 rfl (lv_at hl 2 rfl) ?_
  refine lv_imul hx hb dL_aged_3 ?_
  obtain ⟨v1, e1, h⟩ := mm_bnd h
  refine mm_nmi e1 ?_
  refine lv_istore_n (lv' := [(3, .int v1), (0, .ref (b + 0)), (1, .ref ad), (2, .int a2)]) hx hb dL_aged_4 rfl hl (by decide) rfl (fun ls hl => ?_)
  refine lv_aload_n hx hb dL_aged_5 rfl (lv_at hl 2 rfl) ?_
  refine lv_iload_n hx hb dL_aged_6 rfl (lv_at hl 0 rfl) ?_
  refine lv_iconst (v := 5) hx hb dL_aged_7 (by decide) ?_
  refine lv_iadd hx hb dL_aged_8 ?_
  obtain ⟨g1, h⟩ := mm_grn h
  refine md_dld C hH g1 dL_aged_9 ?_
  refine lv_iconst (v := 1) hx hb dL_aged_10 (by decide) ?_
  refine lv_iadd hx hb dL_aged_11 ?_
  refine lv_aload_n hx hb dL_aged_12 rfl (lv_at hl 1 rfl) ?_
  refine lv_bipush (v := 10) hx hb dL_aged_13 (by decide) ?_
  obtain ⟨v2, e2, h⟩ := mm_bnd h
  refine md_goi hH hA (va_runV (As := [.int 10]) (rest := [.int ((dd (Int32.toNatClampNeg (v1 + 5))) + 1)]) ⟨hx, hb, C.2.2.1, C.2.2.2.1, C.2.2.2.2.1⟩ (ct_X4_count l G T b z 10 x e2) (cwV 1 C.2.2.2.2.1 gL_aged_X4_count rfl rfl rfl df_X4_count ⟨Nat.le_of_ble_eq_true rfl, Nat.le_of_ble_eq_true rfl⟩) ⟨mm_B.blind, mm_recvL (q := (RX4, TX4, 7)) C hH.1 kl_0 (mm_e4 kd_0) rfl, mm_preL C hH.1 hA⟩ rfl rfl hl.1 rfl (lv_room (Nat.le_of_ble_eq_true rfl)) dL_aged_15 ⟨Nat.zero_le _, Nat.zero_le _⟩) (fun H locs hH => ?_)
  refine lv_icmp_lt (tgt := 25) hx hb dL_aged_18 (by decide) (fun c1 => ?_) (fun c1 => ?_)
  · have h := mm_pos c1 h
    refine lv_iconst (v := 0) hx hb dL_aged_25 (by decide) ?_
    refine lv_istore (lv' := [(4, .int 0), (3, .int v1), (0, .ref (b + 0)), (1, .ref ad), (2, .int a2)]) hx hb dL_aged_26 hl (by decide) rfl (fun ls hl => ?_)
    refine lv_iload hx hb dL_aged_28 (lv_at hl 0 rfl) ?_
    refine lv_if_eq (tgt := 43) hx hb dL_aged_30 (by decide) (fun _ => ?_) (fun c => absurd (by decide) c)
    refine lv_aload_n hx hb dL_aged_43 rfl (lv_at hl 3 rfl) ?_
    refine lv_iload_n hx hb dL_aged_44 rfl (lv_at hl 1 rfl) ?_
    refine lv_iconst (v := 2) hx hb dL_aged_45 (by decide) ?_
    refine lv_iadd hx hb dL_aged_46 ?_
    obtain ⟨g2, h⟩ := mm_grn h
    refine md_dld C hH g2 dL_aged_47 ?_
    obtain ⟨v3, e3, h⟩ := mm_bnd h
    refine mm_nmi e3 ?_
    refine lv_istore (lv' := [(5, .int v3), (4, .int 0), (3, .int v1), (0, .ref (b + 0)), (1, .ref ad), (2, .int a2)]) hx hb dL_aged_48 hl (by decide) rfl (fun ls hl => ?_)
    refine lv_aload_n hx hb dL_aged_50 rfl (lv_at hl 4 rfl) ?_
    refine lv_iload_n hx hb dL_aged_51 rfl (lv_at hl 2 rfl) ?_
    refine lv_iconst (v := 3) hx hb dL_aged_52 (by decide) ?_
    refine lv_iadd hx hb dL_aged_53 ?_
    obtain ⟨g3, h⟩ := mm_grn h
    refine md_dld C hH g3 dL_aged_54 ?_
    refine lv_iconst (v := 1) hx hb dL_aged_55 (by decide) ?_
    refine lv_icmp_ne (tgt := 79) hx hb dL_aged_56 (by decide) (fun c2 => ?_) (fun c2 => ?_)
    · have h := mm_neg c2 h
      refine lv_iconst (v := 0) hx hb dL_aged_79 (by decide) ?_
      refine lv_istore (lv' := [(6, .int 0), (5, .int v3), (4, .int 0), (3, .int v1), (0, .ref (b + 0)), (1, .ref ad), (2, .int a2)]) hx hb dL_aged_80 hl (by decide) rfl (fun ls hl => ?_)
      refine lv_aload_n hx hb dL_aged_82 rfl (lv_at hl 5 rfl) ?_
      refine lv_iload_n hx hb dL_aged_83 rfl (lv_at hl 3 rfl) ?_
      refine lv_iconst (v := 3) hx hb dL_aged_84 (by decide) ?_
      refine lv_iadd hx hb dL_aged_85 ?_
      obtain ⟨g4, h⟩ := mm_grn h
      refine md_dld C hH g4 dL_aged_86 ?_
      refine lv_iconst (v := 1) hx hb dL_aged_87 (by decide) ?_
      refine lv_icmp_ne (tgt := 111) hx hb dL_aged_88 (by decide) (fun c3 => ?_) (fun c3 => ?_)
      · have h := mm_neg c3 h
        have hl := lv_sub (l' := [(5, .int v3), (4, .int 0), (3, .int v1), (0, .ref (b + 0)), (1, .ref ad), (2, .int a2)]) hl [1, 2, 3, 4, 5, 6] rfl
        refine lv_iconst (v := 0) hx hb dL_aged_111 (by decide) ?_
        refine lv_istore (lv' := [(7, .int 0), (5, .int v3), (4, .int 0), (3, .int v1), (0, .ref (b + 0)), (1, .ref ad), (2, .int a2)]) hx hb dL_aged_112 hl (by decide) rfl (fun ls hl => ?_)
        refine lv_iload hx hb dL_aged_114 (lv_at hl 0 rfl) ?_
        refine lv_if_eq (tgt := 141) hx hb dL_aged_116 (by decide) (fun _ => ?_) (fun c => absurd (by decide) c)
        refine lv_iload hx hb dL_aged_141 (lv_at hl 1 rfl) ?_
        refine lv_istore (lv' := [(5, .int v3), (7, .int 0), (4, .int 0), (3, .int v1), (0, .ref (b + 0)), (1, .ref ad), (2, .int a2)]) hx hb dL_aged_143 hl (by decide) rfl (fun ls hl => ?_)
        refine lv_aload_n hx hb dL_aged_145 rfl (lv_at hl 4 rfl) ?_
        refine lv_iload_n hx hb dL_aged_146 rfl (lv_at hl 6 rfl) ?_
        refine lv_iconst (v := 2) hx hb dL_aged_147 (by decide) ?_
        obtain ⟨v4, e4, h⟩ := mm_bnd h
        refine md_goi hH hA (va_runV (As := [.int a2, .int 2]) (rest := []) ⟨hx, hb, C.2.2.1, C.2.2.2.1, C.2.2.2.2.1⟩ (ct_X4_of l G T b z a2 2 x e4) (cwV 2 C.2.2.2.2.1 gL_aged_X4_of rfl rfl rfl df_X4_of ⟨Nat.le_of_ble_eq_true rfl, Nat.le_of_ble_eq_true rfl⟩) ⟨mm_B.blind, mm_recvL (q := (RX4, TX4, 7)) C hH.1 kl_0 (mm_e4 kd_0) rfl, mm_preL C hH.1 hA⟩ rfl rfl hl.1 rfl (lv_room (Nat.le_of_ble_eq_true rfl)) dL_aged_148 ⟨Nat.zero_le _, Nat.zero_le _⟩) (fun H locs hH => ?_)
        refine lv_iload hx hb dL_aged_151 (lv_at hl 0 rfl) ?_
        refine lv_icmp_ne (tgt := 208) hx hb dL_aged_153 (by decide) (fun c4 => ?_) (fun c4 => ?_)
        · have h := mm_neg c4 h
          have hl := lv_sub (l' := [(7, .int 0), (3, .int v1), (0, .ref (b + 0)), (1, .ref ad), (2, .int a2)]) hl [1, 3, 4, 5, 6] rfl
          cases h
        · have h := mm_pos c4 h
          have hl := lv_sub (l' := [(7, .int 0), (4, .int 0), (3, .int v1), (0, .ref (b + 0)), (1, .ref ad), (2, .int a2)]) hl [1, 2, 3, 4, 5, 6] rfl
          refine lv_aload_n hx hb dL_aged_156 rfl (lv_at hl 3 rfl) ?_
          refine lv_iload_n hx hb dL_aged_157 rfl (lv_at hl 5 rfl) ?_
          refine lv_iconst (v := 5) hx hb dL_aged_158 (by decide) ?_
          obtain ⟨v5, e5, h⟩ := mm_bnd h
          refine md_goi hH hA (va_runV (As := [.int a2, .int 5]) (rest := []) ⟨hx, hb, C.2.2.1, C.2.2.2.1, C.2.2.2.2.1⟩ (ct_X4_of l G T b z a2 5 x e5) (cwV 2 C.2.2.2.2.1 gL_aged_X4_of rfl rfl rfl df_X4_of ⟨Nat.le_of_ble_eq_true rfl, Nat.le_of_ble_eq_true rfl⟩) ⟨mm_B.blind, mm_recvL (q := (RX4, TX4, 7)) C hH.1 kl_0 (mm_e4 kd_0) rfl, mm_preL C hH.1 hA⟩ rfl rfl hl.1 rfl (lv_room (Nat.le_of_ble_eq_true rfl)) dL_aged_159 ⟨Nat.zero_le _, Nat.zero_le _⟩) (fun H locs hH => ?_)
          refine lv_iload hx hb dL_aged_162 (lv_at hl 1 rfl) ?_
          refine lv_if_eq (tgt := 171) hx hb dL_aged_164 (by decide) (fun _ => ?_) (fun c => absurd (by decide) c)
          have hl := lv_sub (l' := [(7, .int 0), (3, .int v1), (0, .ref (b + 0)), (1, .ref ad), (2, .int a2)]) hl [0, 2, 3, 4, 5] rfl
          refine lv_aload_n hx hb dL_aged_171 rfl (lv_at hl 3 rfl) ?_
          refine lv_iload_n hx hb dL_aged_172 rfl (lv_at hl 1 rfl) ?_
          refine lv_iconst (v := 5) hx hb dL_aged_173 (by decide) ?_
          refine lv_iadd hx hb dL_aged_174 ?_
          obtain ⟨g5, h⟩ := mm_grn h
          refine md_dld C hH g5 dL_aged_175 ?_
          refine lv_iconst (v := 1) hx hb dL_aged_176 (by decide) ?_
          refine lv_iadd hx hb dL_aged_177 ?_
          refine lv_icmp_ne (tgt := 208) hx hb dL_aged_178 (by decide) (fun c5 => ?_) (fun c5 => ?_)
          · have h := mm_neg c5 h
            cases h
          · have h := mm_pos c5 h
            refine lv_aload_n hx hb dL_aged_181 rfl (lv_at hl 2 rfl) ?_
            refine lv_iload_n hx hb dL_aged_182 rfl (lv_at hl 4 rfl) ?_
            refine lv_iconst (v := 3) hx hb dL_aged_183 (by decide) ?_
            obtain ⟨v6, e6, h⟩ := mm_bnd h
            refine md_goi hH hA (va_runV (As := [.int a2, .int 3]) (rest := []) ⟨hx, hb, C.2.2.1, C.2.2.2.1, C.2.2.2.2.1⟩ (ct_X4_of l G T b z a2 3 x e6) (cwV 2 C.2.2.2.2.1 gL_aged_X4_of rfl rfl rfl df_X4_of ⟨Nat.le_of_ble_eq_true rfl, Nat.le_of_ble_eq_true rfl⟩) ⟨mm_B.blind, mm_recvL (q := (RX4, TX4, 7)) C hH.1 kl_0 (mm_e4 kd_0) rfl, mm_preL C hH.1 hA⟩ rfl rfl hl.1 rfl (lv_room (Nat.le_of_ble_eq_true rfl)) dL_aged_184 ⟨Nat.zero_le _, Nat.zero_le _⟩) (fun H locs hH => ?_)
            refine lv_iload hx hb dL_aged_187 (lv_at hl 0 rfl) ?_
            refine lv_if_eq (tgt := 196) hx hb dL_aged_189 (by decide) (fun _ => ?_) (fun c => absurd (by decide) c)
            refine lv_aload_n hx hb dL_aged_196 rfl (lv_at hl 3 rfl) ?_
            refine lv_iload_n hx hb dL_aged_197 rfl (lv_at hl 1 rfl) ?_
            refine lv_iconst (v := 3) hx hb dL_aged_198 (by decide) ?_
            refine lv_iadd hx hb dL_aged_199 ?_
            obtain ⟨g6, h⟩ := mm_grn h
            refine md_dld C hH g6 dL_aged_200 ?_
            refine lv_icmp_ne (tgt := 208) hx hb dL_aged_201 (by decide) (fun c6 => ?_) (fun c6 => ?_)
            · have h := mm_neg c6 h
              cases h
            · have h := mm_pos c6 h
              refine lv_iconst (v := 1) hx hb dL_aged_204 (by decide) ?_
              refine lv_goto (tgt := 209) hx hb dL_aged_205 (by decide) ?_
              refine lv_istore (lv' := [(8, .int 1), (7, .int 0), (3, .int v1), (0, .ref (b + 0)), (1, .ref ad), (2, .int a2)]) hx hb dL_aged_209 hl (by decide) rfl (fun ls hl => ?_)
              refine lv_iload hx hb dL_aged_211 (lv_at hl 0 rfl) ?_
              refine lv_if_eq (tgt := 279) hx hb dL_aged_213 (by decide) (fun c => absurd c (by decide)) (fun _ => ?_)
              have hl := lv_sub (l' := [(7, .int 0), (3, .int v1), (0, .ref (b + 0)), (1, .ref ad), (2, .int a2)]) hl [1, 2, 3, 4, 5] rfl
              refine lv_aload_n hx hb dL_aged_216 rfl (lv_at hl 2 rfl) ?_
              refine lv_iload_n hx hb dL_aged_217 rfl (lv_at hl 4 rfl) ?_
              refine lv_iconst (v := 4) hx hb dL_aged_218 (by decide) ?_
              obtain ⟨v7, e7, h⟩ := mm_bnd h
              refine md_goi hH hA (va_runV (As := [.int a2, .int 4]) (rest := []) ⟨hx, hb, C.2.2.1, C.2.2.2.1, C.2.2.2.2.1⟩ (ct_X4_of l G T b z a2 4 x e7) (cwV 2 C.2.2.2.2.1 gL_aged_X4_of rfl rfl rfl df_X4_of ⟨Nat.le_of_ble_eq_true rfl, Nat.le_of_ble_eq_true rfl⟩) ⟨mm_B.blind, mm_recvL (q := (RX4, TX4, 7)) C hH.1 kl_0 (mm_e4 kd_0) rfl, mm_preL C hH.1 hA⟩ rfl rfl hl.1 rfl (lv_room (Nat.le_of_ble_eq_true rfl)) dL_aged_219 ⟨Nat.zero_le _, Nat.zero_le _⟩) (fun H locs hH => ?_)
              refine lv_iload hx hb dL_aged_222 (lv_at hl 0 rfl) ?_
              refine lv_if_ne (tgt := 235) hx hb dL_aged_224 (by decide) (fun c => absurd (by decide) c) (fun _ => ?_)
              have hl := lv_sub (l' := [(3, .int v1), (0, .ref (b + 0)), (1, .ref ad), (2, .int a2)]) hl [1, 2, 3, 4] rfl
              refine lv_aload_n hx hb dL_aged_227 rfl (lv_at hl 2 rfl) ?_
              refine lv_iload_n hx hb dL_aged_228 rfl (lv_at hl 0 rfl) ?_
              refine lv_iconst (v := 3) hx hb dL_aged_229 (by decide) ?_
              refine lv_iadd hx hb dL_aged_230 ?_
              obtain ⟨g7, h⟩ := mm_grn h
              refine md_dld C hH g7 dL_aged_231 ?_
              refine lv_if_ne (tgt := 239) hx hb dL_aged_232 (by decide) (fun c7 => ?_) (fun c7 => ?_)
              · have h := mm_neg c7 h
                refine lv_aload_n hx hb dL_aged_239 rfl (lv_at hl 2 rfl) ?_
                refine lv_iload_n hx hb dL_aged_240 rfl (lv_at hl 0 rfl) ?_
                refine lv_iconst (v := 4) hx hb dL_aged_241 (by decide) ?_
                refine lv_iadd hx hb dL_aged_242 ?_
                obtain ⟨g8, h⟩ := mm_grn h
                refine md_dld C hH g8 dL_aged_243 ?_
                refine lv_iconst (v := 1) hx hb dL_aged_244 (by decide) ?_
                refine lv_iadd hx hb dL_aged_245 ?_
                refine lv_icmp_ne (tgt := 279) hx hb dL_aged_246 (by decide) (fun c8 => ?_) (fun c8 => ?_)
                · have h := mm_neg c8 h
                  have hl := lv_sub (l' := []) hl [] rfl
                  cases h
                · have h := mm_pos c8 h
                  refine lv_aload_n hx hb dL_aged_249 rfl (lv_at hl 1 rfl) ?_
                  refine lv_iload_n hx hb dL_aged_250 rfl (lv_at hl 3 rfl) ?_
                  refine lv_iconst (v := 0) hx hb dL_aged_251 (by decide) ?_
                  obtain ⟨v8, e8, h⟩ := mm_bnd h
                  refine md_goi hH hA (va_runV (As := [.int a2, .int 0]) (rest := []) ⟨hx, hb, C.2.2.1, C.2.2.2.1, C.2.2.2.2.1⟩ (ct_X4_of l G T b z a2 0 x e8) (cwV 2 C.2.2.2.2.1 gL_aged_X4_of rfl rfl rfl df_X4_of ⟨Nat.le_of_ble_eq_true rfl, Nat.le_of_ble_eq_true rfl⟩) ⟨mm_B.blind, mm_recvL (q := (RX4, TX4, 7)) C hH.1 kl_0 (mm_e4 kd_0) rfl, mm_preL C hH.1 hA⟩ rfl rfl hl.1 rfl (lv_room (Nat.le_of_ble_eq_true rfl)) dL_aged_252 ⟨Nat.zero_le _, Nat.zero_le _⟩) (fun H locs hH => ?_)
                  refine lv_aload_n hx hb dL_aged_255 rfl (lv_at hl 2 rfl) ?_
                  refine lv_iload_n hx hb dL_aged_256 rfl (lv_at hl 0 rfl) ?_
                  obtain ⟨g9, h⟩ := mm_grn h
                  refine md_dld C hH g9 dL_aged_257 ?_
                  refine lv_icmp_ne (tgt := 279) hx hb dL_aged_258 (by decide) (fun c9 => ?_) (fun c9 => ?_)
                  · have h := mm_neg c9 h
                    have hl := lv_sub (l' := []) hl [] rfl
                    cases h
                  · have h := mm_pos c9 h
                    refine lv_aload_n hx hb dL_aged_261 rfl (lv_at hl 1 rfl) ?_
                    refine lv_iload_n hx hb dL_aged_262 rfl (lv_at hl 3 rfl) ?_
                    refine lv_iconst (v := 1) hx hb dL_aged_263 (by decide) ?_
                    obtain ⟨v9, e9, h⟩ := mm_bnd h
                    refine md_goi hH hA (va_runV (As := [.int a2, .int 1]) (rest := []) ⟨hx, hb, C.2.2.1, C.2.2.2.1, C.2.2.2.2.1⟩ (ct_X4_of l G T b z a2 1 x e9) (cwV 2 C.2.2.2.2.1 gL_aged_X4_of rfl rfl rfl df_X4_of ⟨Nat.le_of_ble_eq_true rfl, Nat.le_of_ble_eq_true rfl⟩) ⟨mm_B.blind, mm_recvL (q := (RX4, TX4, 7)) C hH.1 kl_0 (mm_e4 kd_0) rfl, mm_preL C hH.1 hA⟩ rfl rfl hl.1 rfl (lv_room (Nat.le_of_ble_eq_true rfl)) dL_aged_264 ⟨Nat.zero_le _, Nat.zero_le _⟩) (fun H locs hH => ?_)
                    refine lv_aload_n hx hb dL_aged_267 rfl (lv_at hl 2 rfl) ?_
                    refine lv_iload_n hx hb dL_aged_268 rfl (lv_at hl 0 rfl) ?_
                    refine lv_iconst (v := 1) hx hb dL_aged_269 (by decide) ?_
                    refine lv_iadd hx hb dL_aged_270 ?_
                    obtain ⟨g10, h⟩ := mm_grn h
                    refine md_dld C hH g10 dL_aged_271 ?_
                    refine lv_icmp_ne (tgt := 279) hx hb dL_aged_272 (by decide) (fun c10 => ?_) (fun c10 => ?_)
                    · have h := mm_neg c10 h
                      have hl := lv_sub (l' := []) hl [] rfl
                      cases h
                    · have h := mm_pos c10 h
                      have hl := lv_sub (l' := []) hl [] rfl
                      refine lv_iconst (v := 1) hx hb dL_aged_275 (by decide) ?_
                      refine lv_goto (tgt := 280) hx hb dL_aged_276 (by decide) ?_
                      exact mm_iretP C hH.1 hr hlk rfl h dL_aged_280
              · have h := mm_pos c7 h
                refine lv_iconst (v := 0) hx hb dL_aged_235 (by decide) ?_
                refine lv_goto (tgt := 246) hx hb dL_aged_236 (by decide) ?_
                refine lv_icmp_ne (tgt := 279) hx hb dL_aged_246 (by decide) (fun c11 => ?_) (fun c11 => ?_)
                · have h := mm_neg c11 h
                  have hl := lv_sub (l' := []) hl [] rfl
                  cases h
                · have h := mm_pos c11 h
                  refine lv_aload_n hx hb dL_aged_249 rfl (lv_at hl 1 rfl) ?_
                  refine lv_iload_n hx hb dL_aged_250 rfl (lv_at hl 3 rfl) ?_
                  refine lv_iconst (v := 0) hx hb dL_aged_251 (by decide) ?_
                  obtain ⟨v10, e10, h⟩ := mm_bnd h
                  refine md_goi hH hA (va_runV (As := [.int a2, .int 0]) (rest := []) ⟨hx, hb, C.2.2.1, C.2.2.2.1, C.2.2.2.2.1⟩ (ct_X4_of l G T b z a2 0 x e10) (cwV 2 C.2.2.2.2.1 gL_aged_X4_of rfl rfl rfl df_X4_of ⟨Nat.le_of_ble_eq_true rfl, Nat.le_of_ble_eq_true rfl⟩) ⟨mm_B.blind, mm_recvL (q := (RX4, TX4, 7)) C hH.1 kl_0 (mm_e4 kd_0) rfl, mm_preL C hH.1 hA⟩ rfl rfl hl.1 rfl (lv_room (Nat.le_of_ble_eq_true rfl)) dL_aged_252 ⟨Nat.zero_le _, Nat.zero_le _⟩) (fun H locs hH => ?_)
                  refine lv_aload_n hx hb dL_aged_255 rfl (lv_at hl 2 rfl) ?_
                  refine lv_iload_n hx hb dL_aged_256 rfl (lv_at hl 0 rfl) ?_
                  obtain ⟨g11, h⟩ := mm_grn h
                  refine md_dld C hH g11 dL_aged_257 ?_
                  refine lv_icmp_ne (tgt := 279) hx hb dL_aged_258 (by decide) (fun c12 => ?_) (fun c12 => ?_)
                  · have h := mm_neg c12 h
                    have hl := lv_sub (l' := []) hl [] rfl
                    cases h
                  · have h := mm_pos c12 h
                    refine lv_aload_n hx hb dL_aged_261 rfl (lv_at hl 1 rfl) ?_
                    refine lv_iload_n hx hb dL_aged_262 rfl (lv_at hl 3 rfl) ?_
                    refine lv_iconst (v := 1) hx hb dL_aged_263 (by decide) ?_
                    obtain ⟨v11, e11, h⟩ := mm_bnd h
                    refine md_goi hH hA (va_runV (As := [.int a2, .int 1]) (rest := []) ⟨hx, hb, C.2.2.1, C.2.2.2.1, C.2.2.2.2.1⟩ (ct_X4_of l G T b z a2 1 x e11) (cwV 2 C.2.2.2.2.1 gL_aged_X4_of rfl rfl rfl df_X4_of ⟨Nat.le_of_ble_eq_true rfl, Nat.le_of_ble_eq_true rfl⟩) ⟨mm_B.blind, mm_recvL (q := (RX4, TX4, 7)) C hH.1 kl_0 (mm_e4 kd_0) rfl, mm_preL C hH.1 hA⟩ rfl rfl hl.1 rfl (lv_room (Nat.le_of_ble_eq_true rfl)) dL_aged_264 ⟨Nat.zero_le _, Nat.zero_le _⟩) (fun H locs hH => ?_)
                    refine lv_aload_n hx hb dL_aged_267 rfl (lv_at hl 2 rfl) ?_
                    refine lv_iload_n hx hb dL_aged_268 rfl (lv_at hl 0 rfl) ?_
                    refine lv_iconst (v := 1) hx hb dL_aged_269 (by decide) ?_
                    refine lv_iadd hx hb dL_aged_270 ?_
                    obtain ⟨g12, h⟩ := mm_grn h
                    refine md_dld C hH g12 dL_aged_271 ?_
                    refine lv_icmp_ne (tgt := 279) hx hb dL_aged_272 (by decide) (fun c13 => ?_) (fun c13 => ?_)
                    · have h := mm_neg c13 h
                      have hl := lv_sub (l' := []) hl [] rfl
                      cases h
                    · have h := mm_pos c13 h
                      have hl := lv_sub (l' := []) hl [] rfl
                      refine lv_iconst (v := 1) hx hb dL_aged_275 (by decide) ?_
                      refine lv_goto (tgt := 280) hx hb dL_aged_276 (by decide) ?_
                      exact mm_iretP C hH.1 hr hlk rfl h dL_aged_280
      · have h := mm_pos c3 h
        refine lv_iload hx hb dL_aged_91 (lv_at hl 1 rfl) ?_
        refine lv_aload_n hx hb dL_aged_93 rfl (lv_at hl 4 rfl) ?_
        refine lv_bipush (v := 12) hx hb dL_aged_94 (by decide) ?_
        obtain ⟨v12, e12, h⟩ := mm_bnd h
        refine md_goi hH hA (va_runV (As := [.int 12]) (rest := [.int v3]) ⟨hx, hb, C.2.2.1, C.2.2.2.1, C.2.2.2.2.1⟩ (ct_X4_count l G T b z 12 x e12) (cwV 1 C.2.2.2.2.1 gL_aged_X4_count rfl rfl rfl df_X4_count ⟨Nat.le_of_ble_eq_true rfl, Nat.le_of_ble_eq_true rfl⟩) ⟨mm_B.blind, mm_recvL (q := (RX4, TX4, 7)) C hH.1 kl_0 (mm_e4 kd_0) rfl, mm_preL C hH.1 hA⟩ rfl rfl hl.1 rfl (lv_room (Nat.le_of_ble_eq_true rfl)) dL_aged_96 ⟨Nat.zero_le _, Nat.zero_le _⟩) (fun H locs hH => ?_)
        refine lv_icmp_lt (tgt := 107) hx hb dL_aged_99 (by decide) (fun c14 => ?_) (fun c14 => ?_)
        · have h := mm_pos c14 h
          have hl := lv_sub (l' := [(5, .int v3), (4, .int 0), (3, .int v1), (0, .ref (b + 0)), (1, .ref ad), (2, .int a2)]) hl [1, 2, 3, 4, 5, 6] rfl
          refine lv_iconst (v := 1) hx hb dL_aged_107 (by decide) ?_
          refine lv_goto (tgt := 112) hx hb dL_aged_108 (by decide) ?_
          refine lv_istore (lv' := [(7, .int 1), (5, .int v3), (4, .int 0), (3, .int v1), (0, .ref (b + 0)), (1, .ref ad), (2, .int a2)]) hx hb dL_aged_112 hl (by decide) rfl (fun ls hl => ?_)
          refine lv_iload hx hb dL_aged_114 (lv_at hl 0 rfl) ?_
          refine lv_if_eq (tgt := 141) hx hb dL_aged_116 (by decide) (fun c => absurd c (by decide)) (fun _ => ?_)
          refine lv_iload hx hb dL_aged_119 (lv_at hl 1 rfl) ?_
          refine lv_aload_n hx hb dL_aged_121 rfl (lv_at hl 4 rfl) ?_
          refine lv_bipush (v := 12) hx hb dL_aged_122 (by decide) ?_
          obtain ⟨v13, e13, h⟩ := mm_bnd h
          refine md_goi hH hA (va_runV (As := [.int 12]) (rest := [.int v3]) ⟨hx, hb, C.2.2.1, C.2.2.2.1, C.2.2.2.2.1⟩ (ct_X4_count l G T b z 12 x e13) (cwV 1 C.2.2.2.2.1 gL_aged_X4_count rfl rfl rfl df_X4_count ⟨Nat.le_of_ble_eq_true rfl, Nat.le_of_ble_eq_true rfl⟩) ⟨mm_B.blind, mm_recvL (q := (RX4, TX4, 7)) C hH.1 kl_0 (mm_e4 kd_0) rfl, mm_preL C hH.1 hA⟩ rfl rfl hl.1 rfl (lv_room (Nat.le_of_ble_eq_true rfl)) dL_aged_124 ⟨Nat.zero_le _, Nat.zero_le _⟩) (fun H locs hH => ?_)
          refine lv_icmp_lt (tgt := 141) hx hb dL_aged_127 (by decide) (fun c15 => ?_) (fun c15 => ?_)
          · have h := mm_pos c15 h
            refine lv_iload hx hb dL_aged_141 (lv_at hl 1 rfl) ?_
            refine lv_istore (lv' := [(5, .int v3), (7, .int 1), (4, .int 0), (3, .int v1), (0, .ref (b + 0)), (1, .ref ad), (2, .int a2)]) hx hb dL_aged_143 hl (by decide) rfl (fun ls hl => ?_)
            refine lv_aload_n hx hb dL_aged_145 rfl (lv_at hl 4 rfl) ?_
            refine lv_iload_n hx hb dL_aged_146 rfl (lv_at hl 6 rfl) ?_
            refine lv_iconst (v := 2) hx hb dL_aged_147 (by decide) ?_
            obtain ⟨v14, e14, h⟩ := mm_bnd h
            refine md_goi hH hA (va_runV (As := [.int a2, .int 2]) (rest := []) ⟨hx, hb, C.2.2.1, C.2.2.2.1, C.2.2.2.2.1⟩ (ct_X4_of l G T b z a2 2 x e14) (cwV 2 C.2.2.2.2.1 gL_aged_X4_of rfl rfl rfl df_X4_of ⟨Nat.le_of_ble_eq_true rfl, Nat.le_of_ble_eq_true rfl⟩) ⟨mm_B.blind, mm_recvL (q := (RX4, TX4, 7)) C hH.1 kl_0 (mm_e4 kd_0) rfl, mm_preL C hH.1 hA⟩ rfl rfl hl.1 rfl (lv_room (Nat.le_of_ble_eq_true rfl)) dL_aged_148 ⟨Nat.zero_le _, Nat.zero_le _⟩) (fun H locs hH => ?_)
            refine lv_iload hx hb dL_aged_151 (lv_at hl 0 rfl) ?_
            refine lv_icmp_ne (tgt := 208) hx hb dL_aged_153 (by decide) (fun c16 => ?_) (fun c16 => ?_)
            · have h := mm_neg c16 h
              have hl := lv_sub (l' := [(7, .int 1), (3, .int v1), (0, .ref (b + 0)), (1, .ref ad), (2, .int a2)]) hl [1, 3, 4, 5, 6] rfl
              cases h
            · have h := mm_pos c16 h
              have hl := lv_sub (l' := [(7, .int 1), (4, .int 0), (3, .int v1), (0, .ref (b + 0)), (1, .ref ad), (2, .int a2)]) hl [1, 2, 3, 4, 5, 6] rfl
              refine lv_aload_n hx hb dL_aged_156 rfl (lv_at hl 3 rfl) ?_
              refine lv_iload_n hx hb dL_aged_157 rfl (lv_at hl 5 rfl) ?_
              refine lv_iconst (v := 5) hx hb dL_aged_158 (by decide) ?_
              obtain ⟨v15, e15, h⟩ := mm_bnd h
              refine md_goi hH hA (va_runV (As := [.int a2, .int 5]) (rest := []) ⟨hx, hb, C.2.2.1, C.2.2.2.1, C.2.2.2.2.1⟩ (ct_X4_of l G T b z a2 5 x e15) (cwV 2 C.2.2.2.2.1 gL_aged_X4_of rfl rfl rfl df_X4_of ⟨Nat.le_of_ble_eq_true rfl, Nat.le_of_ble_eq_true rfl⟩) ⟨mm_B.blind, mm_recvL (q := (RX4, TX4, 7)) C hH.1 kl_0 (mm_e4 kd_0) rfl, mm_preL C hH.1 hA⟩ rfl rfl hl.1 rfl (lv_room (Nat.le_of_ble_eq_true rfl)) dL_aged_159 ⟨Nat.zero_le _, Nat.zero_le _⟩) (fun H locs hH => ?_)
              refine lv_iload hx hb dL_aged_162 (lv_at hl 1 rfl) ?_
              refine lv_if_eq (tgt := 171) hx hb dL_aged_164 (by decide) (fun _ => ?_) (fun c => absurd (by decide) c)
              have hl := lv_sub (l' := [(7, .int 1), (3, .int v1), (0, .ref (b + 0)), (1, .ref ad), (2, .int a2)]) hl [0, 2, 3, 4, 5] rfl
              refine lv_aload_n hx hb dL_aged_171 rfl (lv_at hl 3 rfl) ?_
              refine lv_iload_n hx hb dL_aged_172 rfl (lv_at hl 1 rfl) ?_
              refine lv_iconst (v := 5) hx hb dL_aged_173 (by decide) ?_
              refine lv_iadd hx hb dL_aged_174 ?_
              obtain ⟨g13, h⟩ := mm_grn h
              refine md_dld C hH g13 dL_aged_175 ?_
              refine lv_iconst (v := 1) hx hb dL_aged_176 (by decide) ?_
              refine lv_iadd hx hb dL_aged_177 ?_
              refine lv_icmp_ne (tgt := 208) hx hb dL_aged_178 (by decide) (fun c17 => ?_) (fun c17 => ?_)
              · have h := mm_neg c17 h
                cases h
              · have h := mm_pos c17 h
                refine lv_aload_n hx hb dL_aged_181 rfl (lv_at hl 2 rfl) ?_
                refine lv_iload_n hx hb dL_aged_182 rfl (lv_at hl 4 rfl) ?_
                refine lv_iconst (v := 3) hx hb dL_aged_183 (by decide) ?_
                obtain ⟨v16, e16, h⟩ := mm_bnd h
                refine md_goi hH hA (va_runV (As := [.int a2, .int 3]) (rest := []) ⟨hx, hb, C.2.2.1, C.2.2.2.1, C.2.2.2.2.1⟩ (ct_X4_of l G T b z a2 3 x e16) (cwV 2 C.2.2.2.2.1 gL_aged_X4_of rfl rfl rfl df_X4_of ⟨Nat.le_of_ble_eq_true rfl, Nat.le_of_ble_eq_true rfl⟩) ⟨mm_B.blind, mm_recvL (q := (RX4, TX4, 7)) C hH.1 kl_0 (mm_e4 kd_0) rfl, mm_preL C hH.1 hA⟩ rfl rfl hl.1 rfl (lv_room (Nat.le_of_ble_eq_true rfl)) dL_aged_184 ⟨Nat.zero_le _, Nat.zero_le _⟩) (fun H locs hH => ?_)
                refine lv_iload hx hb dL_aged_187 (lv_at hl 0 rfl) ?_
                refine lv_if_eq (tgt := 196) hx hb dL_aged_189 (by decide) (fun c => absurd c (by decide)) (fun _ => ?_)
                refine lv_iconst (v := 0) hx hb dL_aged_192 (by decide) ?_
                refine lv_goto (tgt := 201) hx hb dL_aged_193 (by decide) ?_
                refine lv_icmp_ne (tgt := 208) hx hb dL_aged_201 (by decide) (fun c18 => ?_) (fun c18 => ?_)
                · have h := mm_neg c18 h
                  cases h
                · have h := mm_pos c18 h
                  refine lv_iconst (v := 1) hx hb dL_aged_204 (by decide) ?_
                  refine lv_goto (tgt := 209) hx hb dL_aged_205 (by decide) ?_
                  refine lv_istore (lv' := [(8, .int 1), (7, .int 1), (3, .int v1), (0, .ref (b + 0)), (1, .ref ad), (2, .int a2)]) hx hb dL_aged_209 hl (by decide) rfl (fun ls hl => ?_)
                  refine lv_iload hx hb dL_aged_211 (lv_at hl 0 rfl) ?_
                  refine lv_if_eq (tgt := 279) hx hb dL_aged_213 (by decide) (fun c => absurd c (by decide)) (fun _ => ?_)
                  have hl := lv_sub (l' := [(7, .int 1), (3, .int v1), (0, .ref (b + 0)), (1, .ref ad), (2, .int a2)]) hl [1, 2, 3, 4, 5] rfl
                  refine lv_aload_n hx hb dL_aged_216 rfl (lv_at hl 2 rfl) ?_
                  refine lv_iload_n hx hb dL_aged_217 rfl (lv_at hl 4 rfl) ?_
                  refine lv_iconst (v := 4) hx hb dL_aged_218 (by decide) ?_
                  obtain ⟨v17, e17, h⟩ := mm_bnd h
                  refine md_goi hH hA (va_runV (As := [.int a2, .int 4]) (rest := []) ⟨hx, hb, C.2.2.1, C.2.2.2.1, C.2.2.2.2.1⟩ (ct_X4_of l G T b z a2 4 x e17) (cwV 2 C.2.2.2.2.1 gL_aged_X4_of rfl rfl rfl df_X4_of ⟨Nat.le_of_ble_eq_true rfl, Nat.le_of_ble_eq_true rfl⟩) ⟨mm_B.blind, mm_recvL (q := (RX4, TX4, 7)) C hH.1 kl_0 (mm_e4 kd_0) rfl, mm_preL C hH.1 hA⟩ rfl rfl hl.1 rfl (lv_room (Nat.le_of_ble_eq_true rfl)) dL_aged_219 ⟨Nat.zero_le _, Nat.zero_le _⟩) (fun H locs hH => ?_)
                  refine lv_iload hx hb dL_aged_222 (lv_at hl 0 rfl) ?_
                  refine lv_if_ne (tgt := 235) hx hb dL_aged_224 (by decide) (fun _ => ?_) (fun c => absurd c (by decide))
                  have hl := lv_sub (l' := [(3, .int v1), (0, .ref (b + 0)), (1, .ref ad), (2, .int a2)]) hl [1, 2, 3, 4] rfl
                  refine lv_iconst (v := 0) hx hb dL_aged_235 (by decide) ?_
                  refine lv_goto (tgt := 246) hx hb dL_aged_236 (by decide) ?_
                  refine lv_icmp_ne (tgt := 279) hx hb dL_aged_246 (by decide) (fun c19 => ?_) (fun c19 => ?_)
                  · have h := mm_neg c19 h
                    have hl := lv_sub (l' := []) hl [] rfl
                    cases h
                  · have h := mm_pos c19 h
                    refine lv_aload_n hx hb dL_aged_249 rfl (lv_at hl 1 rfl) ?_
                    refine lv_iload_n hx hb dL_aged_250 rfl (lv_at hl 3 rfl) ?_
                    refine lv_iconst (v := 0) hx hb dL_aged_251 (by decide) ?_
                    obtain ⟨v18, e18, h⟩ := mm_bnd h
                    refine md_goi hH hA (va_runV (As := [.int a2, .int 0]) (rest := []) ⟨hx, hb, C.2.2.1, C.2.2.2.1, C.2.2.2.2.1⟩ (ct_X4_of l G T b z a2 0 x e18) (cwV 2 C.2.2.2.2.1 gL_aged_X4_of rfl rfl rfl df_X4_of ⟨Nat.le_of_ble_eq_true rfl, Nat.le_of_ble_eq_true rfl⟩) ⟨mm_B.blind, mm_recvL (q := (RX4, TX4, 7)) C hH.1 kl_0 (mm_e4 kd_0) rfl, mm_preL C hH.1 hA⟩ rfl rfl hl.1 rfl (lv_room (Nat.le_of_ble_eq_true rfl)) dL_aged_252 ⟨Nat.zero_le _, Nat.zero_le _⟩) (fun H locs hH => ?_)
                    refine lv_aload_n hx hb dL_aged_255 rfl (lv_at hl 2 rfl) ?_
                    refine lv_iload_n hx hb dL_aged_256 rfl (lv_at hl 0 rfl) ?_
                    obtain ⟨g14, h⟩ := mm_grn h
                    refine md_dld C hH g14 dL_aged_257 ?_
                    refine lv_icmp_ne (tgt := 279) hx hb dL_aged_258 (by decide) (fun c20 => ?_) (fun c20 => ?_)
                    · have h := mm_neg c20 h
                      have hl := lv_sub (l' := []) hl [] rfl
                      cases h
                    · have h := mm_pos c20 h
                      refine lv_aload_n hx hb dL_aged_261 rfl (lv_at hl 1 rfl) ?_
                      refine lv_iload_n hx hb dL_aged_262 rfl (lv_at hl 3 rfl) ?_
                      refine lv_iconst (v := 1) hx hb dL_aged_263 (by decide) ?_
                      obtain ⟨v19, e19, h⟩ := mm_bnd h
                      refine md_goi hH hA (va_runV (As := [.int a2, .int 1]) (rest := []) ⟨hx, hb, C.2.2.1, C.2.2.2.1, C.2.2.2.2.1⟩ (ct_X4_of l G T b z a2 1 x e19) (cwV 2 C.2.2.2.2.1 gL_aged_X4_of rfl rfl rfl df_X4_of ⟨Nat.le_of_ble_eq_true rfl, Nat.le_of_ble_eq_true rfl⟩) ⟨mm_B.blind, mm_recvL (q := (RX4, TX4, 7)) C hH.1 kl_0 (mm_e4 kd_0) rfl, mm_preL C hH.1 hA⟩ rfl rfl hl.1 rfl (lv_room (Nat.le_of_ble_eq_true rfl)) dL_aged_264 ⟨Nat.zero_le _, Nat.zero_le _⟩) (fun H locs hH => ?_)
                      refine lv_aload_n hx hb dL_aged_267 rfl (lv_at hl 2 rfl) ?_
                      refine lv_iload_n hx hb dL_aged_268 rfl (lv_at hl 0 rfl) ?_
                      refine lv_iconst (v := 1) hx hb dL_aged_269 (by decide) ?_
                      refine lv_iadd hx hb dL_aged_270 ?_
                      obtain ⟨g15, h⟩ := mm_grn h
                      refine md_dld C hH g15 dL_aged_271 ?_
                      refine lv_icmp_ne (tgt := 279) hx hb dL_aged_272 (by decide) (fun c21 => ?_) (fun c21 => ?_)
                      · have h := mm_neg c21 h
                        have hl := lv_sub (l' := []) hl [] rfl
                        cases h
                      · have h := mm_pos c21 h
                        have hl := lv_sub (l' := []) hl [] rfl
                        refine lv_iconst (v := 1) hx hb dL_aged_275 (by decide) ?_
                        refine lv_goto (tgt := 280) hx hb dL_aged_276 (by decide) ?_
                        exact mm_iretP C hH.1 hr hlk rfl h dL_aged_280
          · have h := mm_neg c15 h
            have hl := lv_sub (l' := [(7, .int 1), (4, .int 0), (3, .int v1), (0, .ref (b + 0)), (1, .ref ad), (2, .int a2)]) hl [0, 2, 3, 4, 5, 6] rfl
            refine lv_aload_n hx hb dL_aged_130 rfl (lv_at hl 3 rfl) ?_
            refine lv_bipush (v := 12) hx hb dL_aged_131 (by decide) ?_
            obtain ⟨v20, e20, h⟩ := mm_bnd h
            refine md_goi hH hA (va_runV (As := [.int 12]) (rest := []) ⟨hx, hb, C.2.2.1, C.2.2.2.1, C.2.2.2.2.1⟩ (ct_X4_count l G T b z 12 x e20) (cwV 1 C.2.2.2.2.1 gL_aged_X4_count rfl rfl rfl df_X4_count ⟨Nat.le_of_ble_eq_true rfl, Nat.le_of_ble_eq_true rfl⟩) ⟨mm_B.blind, mm_recvL (q := (RX4, TX4, 7)) C hH.1 kl_0 (mm_e4 kd_0) rfl, mm_preL C hH.1 hA⟩ rfl rfl hl.1 rfl (lv_room (Nat.le_of_ble_eq_true rfl)) dL_aged_133 ⟨Nat.zero_le _, Nat.zero_le _⟩) (fun H locs hH => ?_)
            refine lv_iconst (v := 1) hx hb dL_aged_136 (by decide) ?_
            refine lv_isub hx hb dL_aged_137 ?_
            refine lv_goto (tgt := 143) hx hb dL_aged_138 (by decide) ?_
            obtain ⟨v21, e21, h⟩ := mm_bnd h
            refine mm_nmi e21 ?_
            refine lv_istore (lv' := [(5, .int v21), (7, .int 1), (4, .int 0), (3, .int v1), (0, .ref (b + 0)), (1, .ref ad), (2, .int a2)]) hx hb dL_aged_143 hl (by decide) rfl (fun ls hl => ?_)
            refine lv_aload_n hx hb dL_aged_145 rfl (lv_at hl 4 rfl) ?_
            refine lv_iload_n hx hb dL_aged_146 rfl (lv_at hl 6 rfl) ?_
            refine lv_iconst (v := 2) hx hb dL_aged_147 (by decide) ?_
            obtain ⟨v22, e22, h⟩ := mm_bnd h
            refine md_goi hH hA (va_runV (As := [.int a2, .int 2]) (rest := []) ⟨hx, hb, C.2.2.1, C.2.2.2.1, C.2.2.2.2.1⟩ (ct_X4_of l G T b z a2 2 x e22) (cwV 2 C.2.2.2.2.1 gL_aged_X4_of rfl rfl rfl df_X4_of ⟨Nat.le_of_ble_eq_true rfl, Nat.le_of_ble_eq_true rfl⟩) ⟨mm_B.blind, mm_recvL (q := (RX4, TX4, 7)) C hH.1 kl_0 (mm_e4 kd_0) rfl, mm_preL C hH.1 hA⟩ rfl rfl hl.1 rfl (lv_room (Nat.le_of_ble_eq_true rfl)) dL_aged_148 ⟨Nat.zero_le _, Nat.zero_le _⟩) (fun H locs hH => ?_)
            refine lv_iload hx hb dL_aged_151 (lv_at hl 0 rfl) ?_
            refine lv_icmp_ne (tgt := 208) hx hb dL_aged_153 (by decide) (fun c22 => ?_) (fun c22 => ?_)
            · have h := mm_neg c22 h
              have hl := lv_sub (l' := [(7, .int 1), (3, .int v1), (0, .ref (b + 0)), (1, .ref ad), (2, .int a2)]) hl [1, 3, 4, 5, 6] rfl
              cases h
            · have h := mm_pos c22 h
              have hl := lv_sub (l' := [(7, .int 1), (4, .int 0), (3, .int v1), (0, .ref (b + 0)), (1, .ref ad), (2, .int a2)]) hl [1, 2, 3, 4, 5, 6] rfl
              refine lv_aload_n hx hb dL_aged_156 rfl (lv_at hl 3 rfl) ?_
              refine lv_iload_n hx hb dL_aged_157 rfl (lv_at hl 5 rfl) ?_
              refine lv_iconst (v := 5) hx hb dL_aged_158 (by decide) ?_
              obtain ⟨v23, e23, h⟩ := mm_bnd h
              refine md_goi hH hA (va_runV (As := [.int a2, .int 5]) (rest := []) ⟨hx, hb, C.2.2.1, C.2.2.2.1, C.2.2.2.2.1⟩ (ct_X4_of l G T b z a2 5 x e23) (cwV 2 C.2.2.2.2.1 gL_aged_X4_of rfl rfl rfl df_X4_of ⟨Nat.le_of_ble_eq_true rfl, Nat.le_of_ble_eq_true rfl⟩) ⟨mm_B.blind, mm_recvL (q := (RX4, TX4, 7)) C hH.1 kl_0 (mm_e4 kd_0) rfl, mm_preL C hH.1 hA⟩ rfl rfl hl.1 rfl (lv_room (Nat.le_of_ble_eq_true rfl)) dL_aged_159 ⟨Nat.zero_le _, Nat.zero_le _⟩) (fun H locs hH => ?_)
              refine lv_iload hx hb dL_aged_162 (lv_at hl 1 rfl) ?_
              refine lv_if_eq (tgt := 171) hx hb dL_aged_164 (by decide) (fun _ => ?_) (fun c => absurd (by decide) c)
              have hl := lv_sub (l' := [(7, .int 1), (3, .int v1), (0, .ref (b + 0)), (1, .ref ad), (2, .int a2)]) hl [0, 2, 3, 4, 5] rfl
              refine lv_aload_n hx hb dL_aged_171 rfl (lv_at hl 3 rfl) ?_
              refine lv_iload_n hx hb dL_aged_172 rfl (lv_at hl 1 rfl) ?_
              refine lv_iconst (v := 5) hx hb dL_aged_173 (by decide) ?_
              refine lv_iadd hx hb dL_aged_174 ?_
              obtain ⟨g16, h⟩ := mm_grn h
              refine md_dld C hH g16 dL_aged_175 ?_
              refine lv_iconst (v := 1) hx hb dL_aged_176 (by decide) ?_
              refine lv_iadd hx hb dL_aged_177 ?_
              refine lv_icmp_ne (tgt := 208) hx hb dL_aged_178 (by decide) (fun c23 => ?_) (fun c23 => ?_)
              · have h := mm_neg c23 h
                cases h
              · have h := mm_pos c23 h
                refine lv_aload_n hx hb dL_aged_181 rfl (lv_at hl 2 rfl) ?_
                refine lv_iload_n hx hb dL_aged_182 rfl (lv_at hl 4 rfl) ?_
                refine lv_iconst (v := 3) hx hb dL_aged_183 (by decide) ?_
                obtain ⟨v24, e24, h⟩ := mm_bnd h
                refine md_goi hH hA (va_runV (As := [.int a2, .int 3]) (rest := []) ⟨hx, hb, C.2.2.1, C.2.2.2.1, C.2.2.2.2.1⟩ (ct_X4_of l G T b z a2 3 x e24) (cwV 2 C.2.2.2.2.1 gL_aged_X4_of rfl rfl rfl df_X4_of ⟨Nat.le_of_ble_eq_true rfl, Nat.le_of_ble_eq_true rfl⟩) ⟨mm_B.blind, mm_recvL (q := (RX4, TX4, 7)) C hH.1 kl_0 (mm_e4 kd_0) rfl, mm_preL C hH.1 hA⟩ rfl rfl hl.1 rfl (lv_room (Nat.le_of_ble_eq_true rfl)) dL_aged_184 ⟨Nat.zero_le _, Nat.zero_le _⟩) (fun H locs hH => ?_)
                refine lv_iload hx hb dL_aged_187 (lv_at hl 0 rfl) ?_
                refine lv_if_eq (tgt := 196) hx hb dL_aged_189 (by decide) (fun c => absurd c (by decide)) (fun _ => ?_)
                refine lv_iconst (v := 0) hx hb dL_aged_192 (by decide) ?_
                refine lv_goto (tgt := 201) hx hb dL_aged_193 (by decide) ?_
                refine lv_icmp_ne (tgt := 208) hx hb dL_aged_201 (by decide) (fun c24 => ?_) (fun c24 => ?_)
                · have h := mm_neg c24 h
                  cases h
                · have h := mm_pos c24 h
                  refine lv_iconst (v := 1) hx hb dL_aged_204 (by decide) ?_
                  refine lv_goto (tgt := 209) hx hb dL_aged_205 (by decide) ?_
                  refine lv_istore (lv' := [(8, .int 1), (7, .int 1), (3, .int v1), (0, .ref (b + 0)), (1, .ref ad), (2, .int a2)]) hx hb dL_aged_209 hl (by decide) rfl (fun ls hl => ?_)
                  refine lv_iload hx hb dL_aged_211 (lv_at hl 0 rfl) ?_
                  refine lv_if_eq (tgt := 279) hx hb dL_aged_213 (by decide) (fun c => absurd c (by decide)) (fun _ => ?_)
                  have hl := lv_sub (l' := [(7, .int 1), (3, .int v1), (0, .ref (b + 0)), (1, .ref ad), (2, .int a2)]) hl [1, 2, 3, 4, 5] rfl
                  refine lv_aload_n hx hb dL_aged_216 rfl (lv_at hl 2 rfl) ?_
                  refine lv_iload_n hx hb dL_aged_217 rfl (lv_at hl 4 rfl) ?_
                  refine lv_iconst (v := 4) hx hb dL_aged_218 (by decide) ?_
                  obtain ⟨v25, e25, h⟩ := mm_bnd h
                  refine md_goi hH hA (va_runV (As := [.int a2, .int 4]) (rest := []) ⟨hx, hb, C.2.2.1, C.2.2.2.1, C.2.2.2.2.1⟩ (ct_X4_of l G T b z a2 4 x e25) (cwV 2 C.2.2.2.2.1 gL_aged_X4_of rfl rfl rfl df_X4_of ⟨Nat.le_of_ble_eq_true rfl, Nat.le_of_ble_eq_true rfl⟩) ⟨mm_B.blind, mm_recvL (q := (RX4, TX4, 7)) C hH.1 kl_0 (mm_e4 kd_0) rfl, mm_preL C hH.1 hA⟩ rfl rfl hl.1 rfl (lv_room (Nat.le_of_ble_eq_true rfl)) dL_aged_219 ⟨Nat.zero_le _, Nat.zero_le _⟩) (fun H locs hH => ?_)
                  refine lv_iload hx hb dL_aged_222 (lv_at hl 0 rfl) ?_
                  refine lv_if_ne (tgt := 235) hx hb dL_aged_224 (by decide) (fun _ => ?_) (fun c => absurd c (by decide))
                  have hl := lv_sub (l' := [(3, .int v1), (0, .ref (b + 0)), (1, .ref ad), (2, .int a2)]) hl [1, 2, 3, 4] rfl
                  refine lv_iconst (v := 0) hx hb dL_aged_235 (by decide) ?_
                  refine lv_goto (tgt := 246) hx hb dL_aged_236 (by decide) ?_
                  refine lv_icmp_ne (tgt := 279) hx hb dL_aged_246 (by decide) (fun c25 => ?_) (fun c25 => ?_)
                  · have h := mm_neg c25 h
                    have hl := lv_sub (l' := []) hl [] rfl
                    cases h
                  · have h := mm_pos c25 h
                    refine lv_aload_n hx hb dL_aged_249 rfl (lv_at hl 1 rfl) ?_
                    refine lv_iload_n hx hb dL_aged_250 rfl (lv_at hl 3 rfl) ?_
                    refine lv_iconst (v := 0) hx hb dL_aged_251 (by decide) ?_
                    obtain ⟨v26, e26, h⟩ := mm_bnd h
                    refine md_goi hH hA (va_runV (As := [.int a2, .int 0]) (rest := []) ⟨hx, hb, C.2.2.1, C.2.2.2.1, C.2.2.2.2.1⟩ (ct_X4_of l G T b z a2 0 x e26) (cwV 2 C.2.2.2.2.1 gL_aged_X4_of rfl rfl rfl df_X4_of ⟨Nat.le_of_ble_eq_true rfl, Nat.le_of_ble_eq_true rfl⟩) ⟨mm_B.blind, mm_recvL (q := (RX4, TX4, 7)) C hH.1 kl_0 (mm_e4 kd_0) rfl, mm_preL C hH.1 hA⟩ rfl rfl hl.1 rfl (lv_room (Nat.le_of_ble_eq_true rfl)) dL_aged_252 ⟨Nat.zero_le _, Nat.zero_le _⟩) (fun H locs hH => ?_)
                    refine lv_aload_n hx hb dL_aged_255 rfl (lv_at hl 2 rfl) ?_
                    refine lv_iload_n hx hb dL_aged_256 rfl (lv_at hl 0 rfl) ?_
                    obtain ⟨g17, h⟩ := mm_grn h
                    refine md_dld C hH g17 dL_aged_257 ?_
                    refine lv_icmp_ne (tgt := 279) hx hb dL_aged_258 (by decide) (fun c26 => ?_) (fun c26 => ?_)
                    · have h := mm_neg c26 h
                      have hl := lv_sub (l' := []) hl [] rfl
                      cases h
                    · have h := mm_pos c26 h
                      refine lv_aload_n hx hb dL_aged_261 rfl (lv_at hl 1 rfl) ?_
                      refine lv_iload_n hx hb dL_aged_262 rfl (lv_at hl 3 rfl) ?_
                      refine lv_iconst (v := 1) hx hb dL_aged_263 (by decide) ?_
                      obtain ⟨v27, e27, h⟩ := mm_bnd h
                      refine md_goi hH hA (va_runV (As := [.int a2, .int 1]) (rest := []) ⟨hx, hb, C.2.2.1, C.2.2.2.1, C.2.2.2.2.1⟩ (ct_X4_of l G T b z a2 1 x e27) (cwV 2 C.2.2.2.2.1 gL_aged_X4_of rfl rfl rfl df_X4_of ⟨Nat.le_of_ble_eq_true rfl, Nat.le_of_ble_eq_true rfl⟩) ⟨mm_B.blind, mm_recvL (q := (RX4, TX4, 7)) C hH.1 kl_0 (mm_e4 kd_0) rfl, mm_preL C hH.1 hA⟩ rfl rfl hl.1 rfl (lv_room (Nat.le_of_ble_eq_true rfl)) dL_aged_264 ⟨Nat.zero_le _, Nat.zero_le _⟩) (fun H locs hH => ?_)
                      refine lv_aload_n hx hb dL_aged_267 rfl (lv_at hl 2 rfl) ?_
                      refine lv_iload_n hx hb dL_aged_268 rfl (lv_at hl 0 rfl) ?_
                      refine lv_iconst (v := 1) hx hb dL_aged_269 (by decide) ?_
                      refine lv_iadd hx hb dL_aged_270 ?_
                      obtain ⟨g18, h⟩ := mm_grn h
                      refine md_dld C hH g18 dL_aged_271 ?_
                      refine lv_icmp_ne (tgt := 279) hx hb dL_aged_272 (by decide) (fun c27 => ?_) (fun c27 => ?_)
                      · have h := mm_neg c27 h
                        have hl := lv_sub (l' := []) hl [] rfl
                        cases h
                      · have h := mm_pos c27 h
                        have hl := lv_sub (l' := []) hl [] rfl
                        refine lv_iconst (v := 1) hx hb dL_aged_275 (by decide) ?_
                        refine lv_goto (tgt := 280) hx hb dL_aged_276 (by decide) ?_
                        exact mm_iretP C hH.1 hr hlk rfl h dL_aged_280
        · have h := mm_neg c14 h
          refine lv_iload hx hb dL_aged_102 (lv_at hl 0 rfl) ?_
          refine lv_if_eq (tgt := 111) hx hb dL_aged_104 (by decide) (fun _ => ?_) (fun c => absurd (by decide) c)
          have hl := lv_sub (l' := [(5, .int v3), (4, .int 0), (3, .int v1), (0, .ref (b + 0)), (1, .ref ad), (2, .int a2)]) hl [1, 2, 3, 4, 5, 6] rfl
          refine lv_iconst (v := 0) hx hb dL_aged_111 (by decide) ?_
          refine lv_istore (lv' := [(7, .int 0), (5, .int v3), (4, .int 0), (3, .int v1), (0, .ref (b + 0)), (1, .ref ad), (2, .int a2)]) hx hb dL_aged_112 hl (by decide) rfl (fun ls hl => ?_)
          refine lv_iload hx hb dL_aged_114 (lv_at hl 0 rfl) ?_
          refine lv_if_eq (tgt := 141) hx hb dL_aged_116 (by decide) (fun _ => ?_) (fun c => absurd (by decide) c)
          refine lv_iload hx hb dL_aged_141 (lv_at hl 1 rfl) ?_
          refine lv_istore (lv' := [(5, .int v3), (7, .int 0), (4, .int 0), (3, .int v1), (0, .ref (b + 0)), (1, .ref ad), (2, .int a2)]) hx hb dL_aged_143 hl (by decide) rfl (fun ls hl => ?_)
          refine lv_aload_n hx hb dL_aged_145 rfl (lv_at hl 4 rfl) ?_
          refine lv_iload_n hx hb dL_aged_146 rfl (lv_at hl 6 rfl) ?_
          refine lv_iconst (v := 2) hx hb dL_aged_147 (by decide) ?_
          obtain ⟨v28, e28, h⟩ := mm_bnd h
          refine md_goi hH hA (va_runV (As := [.int a2, .int 2]) (rest := []) ⟨hx, hb, C.2.2.1, C.2.2.2.1, C.2.2.2.2.1⟩ (ct_X4_of l G T b z a2 2 x e28) (cwV 2 C.2.2.2.2.1 gL_aged_X4_of rfl rfl rfl df_X4_of ⟨Nat.le_of_ble_eq_true rfl, Nat.le_of_ble_eq_true rfl⟩) ⟨mm_B.blind, mm_recvL (q := (RX4, TX4, 7)) C hH.1 kl_0 (mm_e4 kd_0) rfl, mm_preL C hH.1 hA⟩ rfl rfl hl.1 rfl (lv_room (Nat.le_of_ble_eq_true rfl)) dL_aged_148 ⟨Nat.zero_le _, Nat.zero_le _⟩) (fun H locs hH => ?_)
          refine lv_iload hx hb dL_aged_151 (lv_at hl 0 rfl) ?_
          refine lv_icmp_ne (tgt := 208) hx hb dL_aged_153 (by decide) (fun c28 => ?_) (fun c28 => ?_)
          · have h := mm_neg c28 h
            have hl := lv_sub (l' := [(7, .int 0), (3, .int v1), (0, .ref (b + 0)), (1, .ref ad), (2, .int a2)]) hl [1, 3, 4, 5, 6] rfl
            cases h
          · have h := mm_pos c28 h
            have hl := lv_sub (l' := [(7, .int 0), (4, .int 0), (3, .int v1), (0, .ref (b + 0)), (1, .ref ad), (2, .int a2)]) hl [1, 2, 3, 4, 5, 6] rfl
            refine lv_aload_n hx hb dL_aged_156 rfl (lv_at hl 3 rfl) ?_
            refine lv_iload_n hx hb dL_aged_157 rfl (lv_at hl 5 rfl) ?_
            refine lv_iconst (v := 5) hx hb dL_aged_158 (by decide) ?_
            obtain ⟨v29, e29, h⟩ := mm_bnd h
            refine md_goi hH hA (va_runV (As := [.int a2, .int 5]) (rest := []) ⟨hx, hb, C.2.2.1, C.2.2.2.1, C.2.2.2.2.1⟩ (ct_X4_of l G T b z a2 5 x e29) (cwV 2 C.2.2.2.2.1 gL_aged_X4_of rfl rfl rfl df_X4_of ⟨Nat.le_of_ble_eq_true rfl, Nat.le_of_ble_eq_true rfl⟩) ⟨mm_B.blind, mm_recvL (q := (RX4, TX4, 7)) C hH.1 kl_0 (mm_e4 kd_0) rfl, mm_preL C hH.1 hA⟩ rfl rfl hl.1 rfl (lv_room (Nat.le_of_ble_eq_true rfl)) dL_aged_159 ⟨Nat.zero_le _, Nat.zero_le _⟩) (fun H locs hH => ?_)
            refine lv_iload hx hb dL_aged_162 (lv_at hl 1 rfl) ?_
            refine lv_if_eq (tgt := 171) hx hb dL_aged_164 (by decide) (fun _ => ?_) (fun c => absurd (by decide) c)
            have hl := lv_sub (l' := [(7, .int 0), (3, .int v1), (0, .ref (b + 0)), (1, .ref ad), (2, .int a2)]) hl [0, 2, 3, 4, 5] rfl
            refine lv_aload_n hx hb dL_aged_171 rfl (lv_at hl 3 rfl) ?_
            refine lv_iload_n hx hb dL_aged_172 rfl (lv_at hl 1 rfl) ?_
            refine lv_iconst (v := 5) hx hb dL_aged_173 (by decide) ?_
            refine lv_iadd hx hb dL_aged_174 ?_
            obtain ⟨g19, h⟩ := mm_grn h
            refine md_dld C hH g19 dL_aged_175 ?_
            refine lv_iconst (v := 1) hx hb dL_aged_176 (by decide) ?_
            refine lv_iadd hx hb dL_aged_177 ?_
            refine lv_icmp_ne (tgt := 208) hx hb dL_aged_178 (by decide) (fun c29 => ?_) (fun c29 => ?_)
            · have h := mm_neg c29 h
              cases h
            · have h := mm_pos c29 h
              refine lv_aload_n hx hb dL_aged_181 rfl (lv_at hl 2 rfl) ?_
              refine lv_iload_n hx hb dL_aged_182 rfl (lv_at hl 4 rfl) ?_
              refine lv_iconst (v := 3) hx hb dL_aged_183 (by decide) ?_
              obtain ⟨v30, e30, h⟩ := mm_bnd h
              refine md_goi hH hA (va_runV (As := [.int a2, .int 3]) (rest := []) ⟨hx, hb, C.2.2.1, C.2.2.2.1, C.2.2.2.2.1⟩ (ct_X4_of l G T b z a2 3 x e30) (cwV 2 C.2.2.2.2.1 gL_aged_X4_of rfl rfl rfl df_X4_of ⟨Nat.le_of_ble_eq_true rfl, Nat.le_of_ble_eq_true rfl⟩) ⟨mm_B.blind, mm_recvL (q := (RX4, TX4, 7)) C hH.1 kl_0 (mm_e4 kd_0) rfl, mm_preL C hH.1 hA⟩ rfl rfl hl.1 rfl (lv_room (Nat.le_of_ble_eq_true rfl)) dL_aged_184 ⟨Nat.zero_le _, Nat.zero_le _⟩) (fun H locs hH => ?_)
              refine lv_iload hx hb dL_aged_187 (lv_at hl 0 rfl) ?_
              refine lv_if_eq (tgt := 196) hx hb dL_aged_189 (by decide) (fun _ => ?_) (fun c => absurd (by decide) c)
              refine lv_aload_n hx hb dL_aged_196 rfl (lv_at hl 3 rfl) ?_
              refine lv_iload_n hx hb dL_aged_197 rfl (lv_at hl 1 rfl) ?_
              refine lv_iconst (v := 3) hx hb dL_aged_198 (by decide) ?_
              refine lv_iadd hx hb dL_aged_199 ?_
              obtain ⟨g20, h⟩ := mm_grn h
              refine md_dld C hH g20 dL_aged_200 ?_
              refine lv_icmp_ne (tgt := 208) hx hb dL_aged_201 (by decide) (fun c30 => ?_) (fun c30 => ?_)
              · have h := mm_neg c30 h
                cases h
              · have h := mm_pos c30 h
                refine lv_iconst (v := 1) hx hb dL_aged_204 (by decide) ?_
                refine lv_goto (tgt := 209) hx hb dL_aged_205 (by decide) ?_
                refine lv_istore (lv' := [(8, .int 1), (7, .int 0), (3, .int v1), (0, .ref (b + 0)), (1, .ref ad), (2, .int a2)]) hx hb dL_aged_209 hl (by decide) rfl (fun ls hl => ?_)
                refine lv_iload hx hb dL_aged_211 (lv_at hl 0 rfl) ?_
                refine lv_if_eq (tgt := 279) hx hb dL_aged_213 (by decide) (fun c => absurd c (by decide)) (fun _ => ?_)
                have hl := lv_sub (l' := [(7, .int 0), (3, .int v1), (0, .ref (b + 0)), (1, .ref ad), (2, .int a2)]) hl [1, 2, 3, 4, 5] rfl
                refine lv_aload_n hx hb dL_aged_216 rfl (lv_at hl 2 rfl) ?_
                refine lv_iload_n hx hb dL_aged_217 rfl (lv_at hl 4 rfl) ?_
                refine lv_iconst (v := 4) hx hb dL_aged_218 (by decide) ?_
                obtain ⟨v31, e31, h⟩ := mm_bnd h
                refine md_goi hH hA (va_runV (As := [.int a2, .int 4]) (rest := []) ⟨hx, hb, C.2.2.1, C.2.2.2.1, C.2.2.2.2.1⟩ (ct_X4_of l G T b z a2 4 x e31) (cwV 2 C.2.2.2.2.1 gL_aged_X4_of rfl rfl rfl df_X4_of ⟨Nat.le_of_ble_eq_true rfl, Nat.le_of_ble_eq_true rfl⟩) ⟨mm_B.blind, mm_recvL (q := (RX4, TX4, 7)) C hH.1 kl_0 (mm_e4 kd_0) rfl, mm_preL C hH.1 hA⟩ rfl rfl hl.1 rfl (lv_room (Nat.le_of_ble_eq_true rfl)) dL_aged_219 ⟨Nat.zero_le _, Nat.zero_le _⟩) (fun H locs hH => ?_)
                refine lv_iload hx hb dL_aged_222 (lv_at hl 0 rfl) ?_
                refine lv_if_ne (tgt := 235) hx hb dL_aged_224 (by decide) (fun c => absurd (by decide) c) (fun _ => ?_)
                have hl := lv_sub (l' := [(3, .int v1), (0, .ref (b + 0)), (1, .ref ad), (2, .int a2)]) hl [1, 2, 3, 4] rfl
                refine lv_aload_n hx hb dL_aged_227 rfl (lv_at hl 2 rfl) ?_
                refine lv_iload_n hx hb dL_aged_228 rfl (lv_at hl 0 rfl) ?_
                refine lv_iconst (v := 3) hx hb dL_aged_229 (by decide) ?_
                refine lv_iadd hx hb dL_aged_230 ?_
                obtain ⟨g21, h⟩ := mm_grn h
                refine md_dld C hH g21 dL_aged_231 ?_
                refine lv_if_ne (tgt := 239) hx hb dL_aged_232 (by decide) (fun _ => ?_) (fun c => absurd (c3.symm.trans c) (by decide))
                refine lv_aload_n hx hb dL_aged_239 rfl (lv_at hl 2 rfl) ?_
                refine lv_iload_n hx hb dL_aged_240 rfl (lv_at hl 0 rfl) ?_
                refine lv_iconst (v := 4) hx hb dL_aged_241 (by decide) ?_
                refine lv_iadd hx hb dL_aged_242 ?_
                obtain ⟨g22, h⟩ := mm_grn h
                refine md_dld C hH g22 dL_aged_243 ?_
                refine lv_iconst (v := 1) hx hb dL_aged_244 (by decide) ?_
                refine lv_iadd hx hb dL_aged_245 ?_
                refine lv_icmp_ne (tgt := 279) hx hb dL_aged_246 (by decide) (fun c31 => ?_) (fun c31 => ?_)
                · have h := mm_neg c31 h
                  have hl := lv_sub (l' := []) hl [] rfl
                  cases h
                · have h := mm_pos c31 h
                  refine lv_aload_n hx hb dL_aged_249 rfl (lv_at hl 1 rfl) ?_
                  refine lv_iload_n hx hb dL_aged_250 rfl (lv_at hl 3 rfl) ?_
                  refine lv_iconst (v := 0) hx hb dL_aged_251 (by decide) ?_
                  obtain ⟨v32, e32, h⟩ := mm_bnd h
                  refine md_goi hH hA (va_runV (As := [.int a2, .int 0]) (rest := []) ⟨hx, hb, C.2.2.1, C.2.2.2.1, C.2.2.2.2.1⟩ (ct_X4_of l G T b z a2 0 x e32) (cwV 2 C.2.2.2.2.1 gL_aged_X4_of rfl rfl rfl df_X4_of ⟨Nat.le_of_ble_eq_true rfl, Nat.le_of_ble_eq_true rfl⟩) ⟨mm_B.blind, mm_recvL (q := (RX4, TX4, 7)) C hH.1 kl_0 (mm_e4 kd_0) rfl, mm_preL C hH.1 hA⟩ rfl rfl hl.1 rfl (lv_room (Nat.le_of_ble_eq_true rfl)) dL_aged_252 ⟨Nat.zero_le _, Nat.zero_le _⟩) (fun H locs hH => ?_)
                  refine lv_aload_n hx hb dL_aged_255 rfl (lv_at hl 2 rfl) ?_
                  refine lv_iload_n hx hb dL_aged_256 rfl (lv_at hl 0 rfl) ?_
                  obtain ⟨g23, h⟩ := mm_grn h
                  refine md_dld C hH g23 dL_aged_257 ?_
                  refine lv_icmp_ne (tgt := 279) hx hb dL_aged_258 (by decide) (fun c32 => ?_) (fun c32 => ?_)
                  · have h := mm_neg c32 h
                    have hl := lv_sub (l' := []) hl [] rfl
                    cases h
                  · have h := mm_pos c32 h
                    refine lv_aload_n hx hb dL_aged_261 rfl (lv_at hl 1 rfl) ?_
                    refine lv_iload_n hx hb dL_aged_262 rfl (lv_at hl 3 rfl) ?_
                    refine lv_iconst (v := 1) hx hb dL_aged_263 (by decide) ?_
                    obtain ⟨v33, e33, h⟩ := mm_bnd h
                    refine md_goi hH hA (va_runV (As := [.int a2, .int 1]) (rest := []) ⟨hx, hb, C.2.2.1, C.2.2.2.1, C.2.2.2.2.1⟩ (ct_X4_of l G T b z a2 1 x e33) (cwV 2 C.2.2.2.2.1 gL_aged_X4_of rfl rfl rfl df_X4_of ⟨Nat.le_of_ble_eq_true rfl, Nat.le_of_ble_eq_true rfl⟩) ⟨mm_B.blind, mm_recvL (q := (RX4, TX4, 7)) C hH.1 kl_0 (mm_e4 kd_0) rfl, mm_preL C hH.1 hA⟩ rfl rfl hl.1 rfl (lv_room (Nat.le_of_ble_eq_true rfl)) dL_aged_264 ⟨Nat.zero_le _, Nat.zero_le _⟩) (fun H locs hH => ?_)
                    refine lv_aload_n hx hb dL_aged_267 rfl (lv_at hl 2 rfl) ?_
                    refine lv_iload_n hx hb dL_aged_268 rfl (lv_at hl 0 rfl) ?_
                    refine lv_iconst (v := 1) hx hb dL_aged_269 (by decide) ?_
                    refine lv_iadd hx hb dL_aged_270 ?_
                    obtain ⟨g24, h⟩ := mm_grn h
                    refine md_dld C hH g24 dL_aged_271 ?_
                    refine lv_icmp_ne (tgt := 279) hx hb dL_aged_272 (by decide) (fun c33 => ?_) (fun c33 => ?_)
                    · have h := mm_neg c33 h
                      have hl := lv_sub (l' := []) hl [] rfl
                      cases h
                    · have h := mm_pos c33 h
                      have hl := lv_sub (l' := []) hl [] rfl
                      refine lv_iconst (v := 1) hx hb dL_aged_275 (by decide) ?_
                      refine lv_goto (tgt := 280) hx hb dL_aged_276 (by decide) ?_
                      exact mm_iretP C hH.1 hr hlk rfl h dL_aged_280
    · have h := mm_pos c2 h
      refine lv_aload_n hx hb dL_aged_59 rfl (lv_at hl 4 rfl) ?_
      refine lv_iload_n hx hb dL_aged_60 rfl (lv_at hl 2 rfl) ?_
      refine lv_iconst (v := 4) hx hb dL_aged_61 (by decide) ?_
      refine lv_iadd hx hb dL_aged_62 ?_
      obtain ⟨g25, h⟩ := mm_grn h
      refine md_dld C hH g25 dL_aged_63 ?_
      refine lv_iconst (v := 1) hx hb dL_aged_64 (by decide) ?_
      refine lv_iadd hx hb dL_aged_65 ?_
      refine lv_aload_n hx hb dL_aged_66 rfl (lv_at hl 3 rfl) ?_
      refine lv_bipush (v := 13) hx hb dL_aged_67 (by decide) ?_
      obtain ⟨v34, e34, h⟩ := mm_bnd h
      refine md_goi hH hA (va_runV (As := [.int 13]) (rest := [.int ((dd (Int32.toNatClampNeg (v1 + 4))) + 1)]) ⟨hx, hb, C.2.2.1, C.2.2.2.1, C.2.2.2.2.1⟩ (ct_X4_count l G T b z 13 x e34) (cwV 1 C.2.2.2.2.1 gL_aged_X4_count rfl rfl rfl df_X4_count ⟨Nat.le_of_ble_eq_true rfl, Nat.le_of_ble_eq_true rfl⟩) ⟨mm_B.blind, mm_recvL (q := (RX4, TX4, 7)) C hH.1 kl_0 (mm_e4 kd_0) rfl, mm_preL C hH.1 hA⟩ rfl rfl hl.1 rfl (lv_room (Nat.le_of_ble_eq_true rfl)) dL_aged_69 ⟨Nat.zero_le _, Nat.zero_le _⟩) (fun H locs hH => ?_)
      refine lv_icmp_lt (tgt := 79) hx hb dL_aged_72 (by decide) (fun c34 => ?_) (fun c34 => ?_)
      · have h := mm_pos c34 h
        refine lv_iconst (v := 0) hx hb dL_aged_79 (by decide) ?_
        refine lv_istore (lv' := [(6, .int 0), (5, .int v3), (4, .int 0), (3, .int v1), (0, .ref (b + 0)), (1, .ref ad), (2, .int a2)]) hx hb dL_aged_80 hl (by decide) rfl (fun ls hl => ?_)
        refine lv_aload_n hx hb dL_aged_82 rfl (lv_at hl 5 rfl) ?_
        refine lv_iload_n hx hb dL_aged_83 rfl (lv_at hl 3 rfl) ?_
        refine lv_iconst (v := 3) hx hb dL_aged_84 (by decide) ?_
        refine lv_iadd hx hb dL_aged_85 ?_
        obtain ⟨g26, h⟩ := mm_grn h
        refine md_dld C hH g26 dL_aged_86 ?_
        refine lv_iconst (v := 1) hx hb dL_aged_87 (by decide) ?_
        refine lv_icmp_ne (tgt := 111) hx hb dL_aged_88 (by decide) (fun c => absurd c2 c) (fun _ => ?_)
        refine lv_iload hx hb dL_aged_91 (lv_at hl 1 rfl) ?_
        refine lv_aload_n hx hb dL_aged_93 rfl (lv_at hl 4 rfl) ?_
        refine lv_bipush (v := 12) hx hb dL_aged_94 (by decide) ?_
        obtain ⟨v35, e35, h⟩ := mm_bnd h
        refine md_goi hH hA (va_runV (As := [.int 12]) (rest := [.int v3]) ⟨hx, hb, C.2.2.1, C.2.2.2.1, C.2.2.2.2.1⟩ (ct_X4_count l G T b z 12 x e35) (cwV 1 C.2.2.2.2.1 gL_aged_X4_count rfl rfl rfl df_X4_count ⟨Nat.le_of_ble_eq_true rfl, Nat.le_of_ble_eq_true rfl⟩) ⟨mm_B.blind, mm_recvL (q := (RX4, TX4, 7)) C hH.1 kl_0 (mm_e4 kd_0) rfl, mm_preL C hH.1 hA⟩ rfl rfl hl.1 rfl (lv_room (Nat.le_of_ble_eq_true rfl)) dL_aged_96 ⟨Nat.zero_le _, Nat.zero_le _⟩) (fun H locs hH => ?_)
        refine lv_icmp_lt (tgt := 107) hx hb dL_aged_99 (by decide) (fun c35 => ?_) (fun c35 => ?_)
        · have h := mm_pos c35 h
          have hl := lv_sub (l' := [(5, .int v3), (4, .int 0), (3, .int v1), (0, .ref (b + 0)), (1, .ref ad), (2, .int a2)]) hl [1, 2, 3, 4, 5, 6] rfl
          refine lv_iconst (v := 1) hx hb dL_aged_107 (by decide) ?_
          refine lv_goto (tgt := 112) hx hb dL_aged_108 (by decide) ?_
          refine lv_istore (lv' := [(7, .int 1), (5, .int v3), (4, .int 0), (3, .int v1), (0, .ref (b + 0)), (1, .ref ad), (2, .int a2)]) hx hb dL_aged_112 hl (by decide) rfl (fun ls hl => ?_)
          refine lv_iload hx hb dL_aged_114 (lv_at hl 0 rfl) ?_
          refine lv_if_eq (tgt := 141) hx hb dL_aged_116 (by decide) (fun c => absurd c (by decide)) (fun _ => ?_)
          refine lv_iload hx hb dL_aged_119 (lv_at hl 1 rfl) ?_
          refine lv_aload_n hx hb dL_aged_121 rfl (lv_at hl 4 rfl) ?_
          refine lv_bipush (v := 12) hx hb dL_aged_122 (by decide) ?_
          obtain ⟨v36, e36, h⟩ := mm_bnd h
          refine md_goi hH hA (va_runV (As := [.int 12]) (rest := [.int v3]) ⟨hx, hb, C.2.2.1, C.2.2.2.1, C.2.2.2.2.1⟩ (ct_X4_count l G T b z 12 x e36) (cwV 1 C.2.2.2.2.1 gL_aged_X4_count rfl rfl rfl df_X4_count ⟨Nat.le_of_ble_eq_true rfl, Nat.le_of_ble_eq_true rfl⟩) ⟨mm_B.blind, mm_recvL (q := (RX4, TX4, 7)) C hH.1 kl_0 (mm_e4 kd_0) rfl, mm_preL C hH.1 hA⟩ rfl rfl hl.1 rfl (lv_room (Nat.le_of_ble_eq_true rfl)) dL_aged_124 ⟨Nat.zero_le _, Nat.zero_le _⟩) (fun H locs hH => ?_)
          refine lv_icmp_lt (tgt := 141) hx hb dL_aged_127 (by decide) (fun c36 => ?_) (fun c36 => ?_)
          · have h := mm_pos c36 h
            refine lv_iload hx hb dL_aged_141 (lv_at hl 1 rfl) ?_
            refine lv_istore (lv' := [(5, .int v3), (7, .int 1), (4, .int 0), (3, .int v1), (0, .ref (b + 0)), (1, .ref ad), (2, .int a2)]) hx hb dL_aged_143 hl (by decide) rfl (fun ls hl => ?_)
            refine lv_aload_n hx hb dL_aged_145 rfl (lv_at hl 4 rfl) ?_
            refine lv_iload_n hx hb dL_aged_146 rfl (lv_at hl 6 rfl) ?_
            refine lv_iconst (v := 2) hx hb dL_aged_147 (by decide) ?_
            obtain ⟨v37, e37, h⟩ := mm_bnd h
            refine md_goi hH hA (va_runV (As := [.int a2, .int 2]) (rest := []) ⟨hx, hb, C.2.2.1, C.2.2.2.1, C.2.2.2.2.1⟩ (ct_X4_of l G T b z a2 2 x e37) (cwV 2 C.2.2.2.2.1 gL_aged_X4_of rfl rfl rfl df_X4_of ⟨Nat.le_of_ble_eq_true rfl, Nat.le_of_ble_eq_true rfl⟩) ⟨mm_B.blind, mm_recvL (q := (RX4, TX4, 7)) C hH.1 kl_0 (mm_e4 kd_0) rfl, mm_preL C hH.1 hA⟩ rfl rfl hl.1 rfl (lv_room (Nat.le_of_ble_eq_true rfl)) dL_aged_148 ⟨Nat.zero_le _, Nat.zero_le _⟩) (fun H locs hH => ?_)
            refine lv_iload hx hb dL_aged_151 (lv_at hl 0 rfl) ?_
            refine lv_icmp_ne (tgt := 208) hx hb dL_aged_153 (by decide) (fun c37 => ?_) (fun c37 => ?_)
            · have h := mm_neg c37 h
              have hl := lv_sub (l' := [(7, .int 1), (3, .int v1), (0, .ref (b + 0)), (1, .ref ad), (2, .int a2)]) hl [1, 3, 4, 5, 6] rfl
              cases h
            · have h := mm_pos c37 h
              have hl := lv_sub (l' := [(7, .int 1), (4, .int 0), (3, .int v1), (0, .ref (b + 0)), (1, .ref ad), (2, .int a2)]) hl [1, 2, 3, 4, 5, 6] rfl
              refine lv_aload_n hx hb dL_aged_156 rfl (lv_at hl 3 rfl) ?_
              refine lv_iload_n hx hb dL_aged_157 rfl (lv_at hl 5 rfl) ?_
              refine lv_iconst (v := 5) hx hb dL_aged_158 (by decide) ?_
              obtain ⟨v38, e38, h⟩ := mm_bnd h
              refine md_goi hH hA (va_runV (As := [.int a2, .int 5]) (rest := []) ⟨hx, hb, C.2.2.1, C.2.2.2.1, C.2.2.2.2.1⟩ (ct_X4_of l G T b z a2 5 x e38) (cwV 2 C.2.2.2.2.1 gL_aged_X4_of rfl rfl rfl df_X4_of ⟨Nat.le_of_ble_eq_true rfl, Nat.le_of_ble_eq_true rfl⟩) ⟨mm_B.blind, mm_recvL (q := (RX4, TX4, 7)) C hH.1 kl_0 (mm_e4 kd_0) rfl, mm_preL C hH.1 hA⟩ rfl rfl hl.1 rfl (lv_room (Nat.le_of_ble_eq_true rfl)) dL_aged_159 ⟨Nat.zero_le _, Nat.zero_le _⟩) (fun H locs hH => ?_)
              refine lv_iload hx hb dL_aged_162 (lv_at hl 1 rfl) ?_
              refine lv_if_eq (tgt := 171) hx hb dL_aged_164 (by decide) (fun _ => ?_) (fun c => absurd (by decide) c)
              have hl := lv_sub (l' := [(7, .int 1), (3, .int v1), (0, .ref (b + 0)), (1, .ref ad), (2, .int a2)]) hl [0, 2, 3, 4, 5] rfl
              refine lv_aload_n hx hb dL_aged_171 rfl (lv_at hl 3 rfl) ?_
              refine lv_iload_n hx hb dL_aged_172 rfl (lv_at hl 1 rfl) ?_
              refine lv_iconst (v := 5) hx hb dL_aged_173 (by decide) ?_
              refine lv_iadd hx hb dL_aged_174 ?_
              obtain ⟨g27, h⟩ := mm_grn h
              refine md_dld C hH g27 dL_aged_175 ?_
              refine lv_iconst (v := 1) hx hb dL_aged_176 (by decide) ?_
              refine lv_iadd hx hb dL_aged_177 ?_
              refine lv_icmp_ne (tgt := 208) hx hb dL_aged_178 (by decide) (fun c38 => ?_) (fun c38 => ?_)
              · have h := mm_neg c38 h
                cases h
              · have h := mm_pos c38 h
                refine lv_aload_n hx hb dL_aged_181 rfl (lv_at hl 2 rfl) ?_
                refine lv_iload_n hx hb dL_aged_182 rfl (lv_at hl 4 rfl) ?_
                refine lv_iconst (v := 3) hx hb dL_aged_183 (by decide) ?_
                obtain ⟨v39, e39, h⟩ := mm_bnd h
                refine md_goi hH hA (va_runV (As := [.int a2, .int 3]) (rest := []) ⟨hx, hb, C.2.2.1, C.2.2.2.1, C.2.2.2.2.1⟩ (ct_X4_of l G T b z a2 3 x e39) (cwV 2 C.2.2.2.2.1 gL_aged_X4_of rfl rfl rfl df_X4_of ⟨Nat.le_of_ble_eq_true rfl, Nat.le_of_ble_eq_true rfl⟩) ⟨mm_B.blind, mm_recvL (q := (RX4, TX4, 7)) C hH.1 kl_0 (mm_e4 kd_0) rfl, mm_preL C hH.1 hA⟩ rfl rfl hl.1 rfl (lv_room (Nat.le_of_ble_eq_true rfl)) dL_aged_184 ⟨Nat.zero_le _, Nat.zero_le _⟩) (fun H locs hH => ?_)
                refine lv_iload hx hb dL_aged_187 (lv_at hl 0 rfl) ?_
                refine lv_if_eq (tgt := 196) hx hb dL_aged_189 (by decide) (fun c => absurd c (by decide)) (fun _ => ?_)
                refine lv_iconst (v := 0) hx hb dL_aged_192 (by decide) ?_
                refine lv_goto (tgt := 201) hx hb dL_aged_193 (by decide) ?_
                refine lv_icmp_ne (tgt := 208) hx hb dL_aged_201 (by decide) (fun c39 => ?_) (fun c39 => ?_)
                · have h := mm_neg c39 h
                  cases h
                · have h := mm_pos c39 h
                  refine lv_iconst (v := 1) hx hb dL_aged_204 (by decide) ?_
                  refine lv_goto (tgt := 209) hx hb dL_aged_205 (by decide) ?_
                  refine lv_istore (lv' := [(8, .int 1), (7, .int 1), (3, .int v1), (0, .ref (b + 0)), (1, .ref ad), (2, .int a2)]) hx hb dL_aged_209 hl (by decide) rfl (fun ls hl => ?_)
                  refine lv_iload hx hb dL_aged_211 (lv_at hl 0 rfl) ?_
                  refine lv_if_eq (tgt := 279) hx hb dL_aged_213 (by decide) (fun c => absurd c (by decide)) (fun _ => ?_)
                  have hl := lv_sub (l' := [(7, .int 1), (3, .int v1), (0, .ref (b + 0)), (1, .ref ad), (2, .int a2)]) hl [1, 2, 3, 4, 5] rfl
                  refine lv_aload_n hx hb dL_aged_216 rfl (lv_at hl 2 rfl) ?_
                  refine lv_iload_n hx hb dL_aged_217 rfl (lv_at hl 4 rfl) ?_
                  refine lv_iconst (v := 4) hx hb dL_aged_218 (by decide) ?_
                  obtain ⟨v40, e40, h⟩ := mm_bnd h
                  refine md_goi hH hA (va_runV (As := [.int a2, .int 4]) (rest := []) ⟨hx, hb, C.2.2.1, C.2.2.2.1, C.2.2.2.2.1⟩ (ct_X4_of l G T b z a2 4 x e40) (cwV 2 C.2.2.2.2.1 gL_aged_X4_of rfl rfl rfl df_X4_of ⟨Nat.le_of_ble_eq_true rfl, Nat.le_of_ble_eq_true rfl⟩) ⟨mm_B.blind, mm_recvL (q := (RX4, TX4, 7)) C hH.1 kl_0 (mm_e4 kd_0) rfl, mm_preL C hH.1 hA⟩ rfl rfl hl.1 rfl (lv_room (Nat.le_of_ble_eq_true rfl)) dL_aged_219 ⟨Nat.zero_le _, Nat.zero_le _⟩) (fun H locs hH => ?_)
                  refine lv_iload hx hb dL_aged_222 (lv_at hl 0 rfl) ?_
                  refine lv_if_ne (tgt := 235) hx hb dL_aged_224 (by decide) (fun _ => ?_) (fun c => absurd c (by decide))
                  have hl := lv_sub (l' := [(3, .int v1), (0, .ref (b + 0)), (1, .ref ad), (2, .int a2)]) hl [1, 2, 3, 4] rfl
                  refine lv_iconst (v := 0) hx hb dL_aged_235 (by decide) ?_
                  refine lv_goto (tgt := 246) hx hb dL_aged_236 (by decide) ?_
                  refine lv_icmp_ne (tgt := 279) hx hb dL_aged_246 (by decide) (fun c40 => ?_) (fun c40 => ?_)
                  · have h := mm_neg c40 h
                    have hl := lv_sub (l' := []) hl [] rfl
                    cases h
                  · have h := mm_pos c40 h
                    refine lv_aload_n hx hb dL_aged_249 rfl (lv_at hl 1 rfl) ?_
                    refine lv_iload_n hx hb dL_aged_250 rfl (lv_at hl 3 rfl) ?_
                    refine lv_iconst (v := 0) hx hb dL_aged_251 (by decide) ?_
                    obtain ⟨v41, e41, h⟩ := mm_bnd h
                    refine md_goi hH hA (va_runV (As := [.int a2, .int 0]) (rest := []) ⟨hx, hb, C.2.2.1, C.2.2.2.1, C.2.2.2.2.1⟩ (ct_X4_of l G T b z a2 0 x e41) (cwV 2 C.2.2.2.2.1 gL_aged_X4_of rfl rfl rfl df_X4_of ⟨Nat.le_of_ble_eq_true rfl, Nat.le_of_ble_eq_true rfl⟩) ⟨mm_B.blind, mm_recvL (q := (RX4, TX4, 7)) C hH.1 kl_0 (mm_e4 kd_0) rfl, mm_preL C hH.1 hA⟩ rfl rfl hl.1 rfl (lv_room (Nat.le_of_ble_eq_true rfl)) dL_aged_252 ⟨Nat.zero_le _, Nat.zero_le _⟩) (fun H locs hH => ?_)
                    refine lv_aload_n hx hb dL_aged_255 rfl (lv_at hl 2 rfl) ?_
                    refine lv_iload_n hx hb dL_aged_256 rfl (lv_at hl 0 rfl) ?_
                    obtain ⟨g28, h⟩ := mm_grn h
                    refine md_dld C hH g28 dL_aged_257 ?_
                    refine lv_icmp_ne (tgt := 279) hx hb dL_aged_258 (by decide) (fun c41 => ?_) (fun c41 => ?_)
                    · have h := mm_neg c41 h
                      have hl := lv_sub (l' := []) hl [] rfl
                      cases h
                    · have h := mm_pos c41 h
                      refine lv_aload_n hx hb dL_aged_261 rfl (lv_at hl 1 rfl) ?_
                      refine lv_iload_n hx hb dL_aged_262 rfl (lv_at hl 3 rfl) ?_
                      refine lv_iconst (v := 1) hx hb dL_aged_263 (by decide) ?_
                      obtain ⟨v42, e42, h⟩ := mm_bnd h
                      refine md_goi hH hA (va_runV (As := [.int a2, .int 1]) (rest := []) ⟨hx, hb, C.2.2.1, C.2.2.2.1, C.2.2.2.2.1⟩ (ct_X4_of l G T b z a2 1 x e42) (cwV 2 C.2.2.2.2.1 gL_aged_X4_of rfl rfl rfl df_X4_of ⟨Nat.le_of_ble_eq_true rfl, Nat.le_of_ble_eq_true rfl⟩) ⟨mm_B.blind, mm_recvL (q := (RX4, TX4, 7)) C hH.1 kl_0 (mm_e4 kd_0) rfl, mm_preL C hH.1 hA⟩ rfl rfl hl.1 rfl (lv_room (Nat.le_of_ble_eq_true rfl)) dL_aged_264 ⟨Nat.zero_le _, Nat.zero_le _⟩) (fun H locs hH => ?_)
                      refine lv_aload_n hx hb dL_aged_267 rfl (lv_at hl 2 rfl) ?_
                      refine lv_iload_n hx hb dL_aged_268 rfl (lv_at hl 0 rfl) ?_
                      refine lv_iconst (v := 1) hx hb dL_aged_269 (by decide) ?_
                      refine lv_iadd hx hb dL_aged_270 ?_
                      obtain ⟨g29, h⟩ := mm_grn h
                      refine md_dld C hH g29 dL_aged_271 ?_
                      refine lv_icmp_ne (tgt := 279) hx hb dL_aged_272 (by decide) (fun c42 => ?_) (fun c42 => ?_)
                      · have h := mm_neg c42 h
                        have hl := lv_sub (l' := []) hl [] rfl
                        cases h
                      · have h := mm_pos c42 h
                        have hl := lv_sub (l' := []) hl [] rfl
                        refine lv_iconst (v := 1) hx hb dL_aged_275 (by decide) ?_
                        refine lv_goto (tgt := 280) hx hb dL_aged_276 (by decide) ?_
                        exact mm_iretP C hH.1 hr hlk rfl h dL_aged_280
          · have h := mm_neg c36 h
            have hl := lv_sub (l' := [(7, .int 1), (4, .int 0), (3, .int v1), (0, .ref (b + 0)), (1, .ref ad), (2, .int a2)]) hl [0, 2, 3, 4, 5, 6] rfl
            refine lv_aload_n hx hb dL_aged_130 rfl (lv_at hl 3 rfl) ?_
            refine lv_bipush (v := 12) hx hb dL_aged_131 (by decide) ?_
            obtain ⟨v43, e43, h⟩ := mm_bnd h
            refine md_goi hH hA (va_runV (As := [.int 12]) (rest := []) ⟨hx, hb, C.2.2.1, C.2.2.2.1, C.2.2.2.2.1⟩ (ct_X4_count l G T b z 12 x e43) (cwV 1 C.2.2.2.2.1 gL_aged_X4_count rfl rfl rfl df_X4_count ⟨Nat.le_of_ble_eq_true rfl, Nat.le_of_ble_eq_true rfl⟩) ⟨mm_B.blind, mm_recvL (q := (RX4, TX4, 7)) C hH.1 kl_0 (mm_e4 kd_0) rfl, mm_preL C hH.1 hA⟩ rfl rfl hl.1 rfl (lv_room (Nat.le_of_ble_eq_true rfl)) dL_aged_133 ⟨Nat.zero_le _, Nat.zero_le _⟩) (fun H locs hH => ?_)
            refine lv_iconst (v := 1) hx hb dL_aged_136 (by decide) ?_
            refine lv_isub hx hb dL_aged_137 ?_
            refine lv_goto (tgt := 143) hx hb dL_aged_138 (by decide) ?_
            obtain ⟨v44, e44, h⟩ := mm_bnd h
            refine mm_nmi e44 ?_
            refine lv_istore (lv' := [(5, .int v44), (7, .int 1), (4, .int 0), (3, .int v1), (0, .ref (b + 0)), (1, .ref ad), (2, .int a2)]) hx hb dL_aged_143 hl (by decide) rfl (fun ls hl => ?_)
            refine lv_aload_n hx hb dL_aged_145 rfl (lv_at hl 4 rfl) ?_
            refine lv_iload_n hx hb dL_aged_146 rfl (lv_at hl 6 rfl) ?_
            refine lv_iconst (v := 2) hx hb dL_aged_147 (by decide) ?_
            obtain ⟨v45, e45, h⟩ := mm_bnd h
            refine md_goi hH hA (va_runV (As := [.int a2, .int 2]) (rest := []) ⟨hx, hb, C.2.2.1, C.2.2.2.1, C.2.2.2.2.1⟩ (ct_X4_of l G T b z a2 2 x e45) (cwV 2 C.2.2.2.2.1 gL_aged_X4_of rfl rfl rfl df_X4_of ⟨Nat.le_of_ble_eq_true rfl, Nat.le_of_ble_eq_true rfl⟩) ⟨mm_B.blind, mm_recvL (q := (RX4, TX4, 7)) C hH.1 kl_0 (mm_e4 kd_0) rfl, mm_preL C hH.1 hA⟩ rfl rfl hl.1 rfl (lv_room (Nat.le_of_ble_eq_true rfl)) dL_aged_148 ⟨Nat.zero_le _, Nat.zero_le _⟩) (fun H locs hH => ?_)
            refine lv_iload hx hb dL_aged_151 (lv_at hl 0 rfl) ?_
            refine lv_icmp_ne (tgt := 208) hx hb dL_aged_153 (by decide) (fun c43 => ?_) (fun c43 => ?_)
            · have h := mm_neg c43 h
              have hl := lv_sub (l' := [(7, .int 1), (3, .int v1), (0, .ref (b + 0)), (1, .ref ad), (2, .int a2)]) hl [1, 3, 4, 5, 6] rfl
              cases h
            · have h := mm_pos c43 h
              have hl := lv_sub (l' := [(7, .int 1), (4, .int 0), (3, .int v1), (0, .ref (b + 0)), (1, .ref ad), (2, .int a2)]) hl [1, 2, 3, 4, 5, 6] rfl
              refine lv_aload_n hx hb dL_aged_156 rfl (lv_at hl 3 rfl) ?_
              refine lv_iload_n hx hb dL_aged_157 rfl (lv_at hl 5 rfl) ?_
              refine lv_iconst (v := 5) hx hb dL_aged_158 (by decide) ?_
              obtain ⟨v46, e46, h⟩ := mm_bnd h
              refine md_goi hH hA (va_runV (As := [.int a2, .int 5]) (rest := []) ⟨hx, hb, C.2.2.1, C.2.2.2.1, C.2.2.2.2.1⟩ (ct_X4_of l G T b z a2 5 x e46) (cwV 2 C.2.2.2.2.1 gL_aged_X4_of rfl rfl rfl df_X4_of ⟨Nat.le_of_ble_eq_true rfl, Nat.le_of_ble_eq_true rfl⟩) ⟨mm_B.blind, mm_recvL (q := (RX4, TX4, 7)) C hH.1 kl_0 (mm_e4 kd_0) rfl, mm_preL C hH.1 hA⟩ rfl rfl hl.1 rfl (lv_room (Nat.le_of_ble_eq_true rfl)) dL_aged_159 ⟨Nat.zero_le _, Nat.zero_le _⟩) (fun H locs hH => ?_)
              refine lv_iload hx hb dL_aged_162 (lv_at hl 1 rfl) ?_
              refine lv_if_eq (tgt := 171) hx hb dL_aged_164 (by decide) (fun _ => ?_) (fun c => absurd (by decide) c)
              have hl := lv_sub (l' := [(7, .int 1), (3, .int v1), (0, .ref (b + 0)), (1, .ref ad), (2, .int a2)]) hl [0, 2, 3, 4, 5] rfl
              refine lv_aload_n hx hb dL_aged_171 rfl (lv_at hl 3 rfl) ?_
              refine lv_iload_n hx hb dL_aged_172 rfl (lv_at hl 1 rfl) ?_
              refine lv_iconst (v := 5) hx hb dL_aged_173 (by decide) ?_
              refine lv_iadd hx hb dL_aged_174 ?_
              obtain ⟨g30, h⟩ := mm_grn h
              refine md_dld C hH g30 dL_aged_175 ?_
              refine lv_iconst (v := 1) hx hb dL_aged_176 (by decide) ?_
              refine lv_iadd hx hb dL_aged_177 ?_
              refine lv_icmp_ne (tgt := 208) hx hb dL_aged_178 (by decide) (fun c44 => ?_) (fun c44 => ?_)
              · have h := mm_neg c44 h
                cases h
              · have h := mm_pos c44 h
                refine lv_aload_n hx hb dL_aged_181 rfl (lv_at hl 2 rfl) ?_
                refine lv_iload_n hx hb dL_aged_182 rfl (lv_at hl 4 rfl) ?_
                refine lv_iconst (v := 3) hx hb dL_aged_183 (by decide) ?_
                obtain ⟨v47, e47, h⟩ := mm_bnd h
                refine md_goi hH hA (va_runV (As := [.int a2, .int 3]) (rest := []) ⟨hx, hb, C.2.2.1, C.2.2.2.1, C.2.2.2.2.1⟩ (ct_X4_of l G T b z a2 3 x e47) (cwV 2 C.2.2.2.2.1 gL_aged_X4_of rfl rfl rfl df_X4_of ⟨Nat.le_of_ble_eq_true rfl, Nat.le_of_ble_eq_true rfl⟩) ⟨mm_B.blind, mm_recvL (q := (RX4, TX4, 7)) C hH.1 kl_0 (mm_e4 kd_0) rfl, mm_preL C hH.1 hA⟩ rfl rfl hl.1 rfl (lv_room (Nat.le_of_ble_eq_true rfl)) dL_aged_184 ⟨Nat.zero_le _, Nat.zero_le _⟩) (fun H locs hH => ?_)
                refine lv_iload hx hb dL_aged_187 (lv_at hl 0 rfl) ?_
                refine lv_if_eq (tgt := 196) hx hb dL_aged_189 (by decide) (fun c => absurd c (by decide)) (fun _ => ?_)
                refine lv_iconst (v := 0) hx hb dL_aged_192 (by decide) ?_
                refine lv_goto (tgt := 201) hx hb dL_aged_193 (by decide) ?_
                refine lv_icmp_ne (tgt := 208) hx hb dL_aged_201 (by decide) (fun c45 => ?_) (fun c45 => ?_)
                · have h := mm_neg c45 h
                  cases h
                · have h := mm_pos c45 h
                  refine lv_iconst (v := 1) hx hb dL_aged_204 (by decide) ?_
                  refine lv_goto (tgt := 209) hx hb dL_aged_205 (by decide) ?_
                  refine lv_istore (lv' := [(8, .int 1), (7, .int 1), (3, .int v1), (0, .ref (b + 0)), (1, .ref ad), (2, .int a2)]) hx hb dL_aged_209 hl (by decide) rfl (fun ls hl => ?_)
                  refine lv_iload hx hb dL_aged_211 (lv_at hl 0 rfl) ?_
                  refine lv_if_eq (tgt := 279) hx hb dL_aged_213 (by decide) (fun c => absurd c (by decide)) (fun _ => ?_)
                  have hl := lv_sub (l' := [(7, .int 1), (3, .int v1), (0, .ref (b + 0)), (1, .ref ad), (2, .int a2)]) hl [1, 2, 3, 4, 5] rfl
                  refine lv_aload_n hx hb dL_aged_216 rfl (lv_at hl 2 rfl) ?_
                  refine lv_iload_n hx hb dL_aged_217 rfl (lv_at hl 4 rfl) ?_
                  refine lv_iconst (v := 4) hx hb dL_aged_218 (by decide) ?_
                  obtain ⟨v48, e48, h⟩ := mm_bnd h
                  refine md_goi hH hA (va_runV (As := [.int a2, .int 4]) (rest := []) ⟨hx, hb, C.2.2.1, C.2.2.2.1, C.2.2.2.2.1⟩ (ct_X4_of l G T b z a2 4 x e48) (cwV 2 C.2.2.2.2.1 gL_aged_X4_of rfl rfl rfl df_X4_of ⟨Nat.le_of_ble_eq_true rfl, Nat.le_of_ble_eq_true rfl⟩) ⟨mm_B.blind, mm_recvL (q := (RX4, TX4, 7)) C hH.1 kl_0 (mm_e4 kd_0) rfl, mm_preL C hH.1 hA⟩ rfl rfl hl.1 rfl (lv_room (Nat.le_of_ble_eq_true rfl)) dL_aged_219 ⟨Nat.zero_le _, Nat.zero_le _⟩) (fun H locs hH => ?_)
                  refine lv_iload hx hb dL_aged_222 (lv_at hl 0 rfl) ?_
                  refine lv_if_ne (tgt := 235) hx hb dL_aged_224 (by decide) (fun _ => ?_) (fun c => absurd c (by decide))
                  have hl := lv_sub (l' := [(3, .int v1), (0, .ref (b + 0)), (1, .ref ad), (2, .int a2)]) hl [1, 2, 3, 4] rfl
                  refine lv_iconst (v := 0) hx hb dL_aged_235 (by decide) ?_
                  refine lv_goto (tgt := 246) hx hb dL_aged_236 (by decide) ?_
                  refine lv_icmp_ne (tgt := 279) hx hb dL_aged_246 (by decide) (fun c46 => ?_) (fun c46 => ?_)
                  · have h := mm_neg c46 h
                    have hl := lv_sub (l' := []) hl [] rfl
                    cases h
                  · have h := mm_pos c46 h
                    refine lv_aload_n hx hb dL_aged_249 rfl (lv_at hl 1 rfl) ?_
                    refine lv_iload_n hx hb dL_aged_250 rfl (lv_at hl 3 rfl) ?_
                    refine lv_iconst (v := 0) hx hb dL_aged_251 (by decide) ?_
                    obtain ⟨v49, e49, h⟩ := mm_bnd h
                    refine md_goi hH hA (va_runV (As := [.int a2, .int 0]) (rest := []) ⟨hx, hb, C.2.2.1, C.2.2.2.1, C.2.2.2.2.1⟩ (ct_X4_of l G T b z a2 0 x e49) (cwV 2 C.2.2.2.2.1 gL_aged_X4_of rfl rfl rfl df_X4_of ⟨Nat.le_of_ble_eq_true rfl, Nat.le_of_ble_eq_true rfl⟩) ⟨mm_B.blind, mm_recvL (q := (RX4, TX4, 7)) C hH.1 kl_0 (mm_e4 kd_0) rfl, mm_preL C hH.1 hA⟩ rfl rfl hl.1 rfl (lv_room (Nat.le_of_ble_eq_true rfl)) dL_aged_252 ⟨Nat.zero_le _, Nat.zero_le _⟩) (fun H locs hH => ?_)
                    refine lv_aload_n hx hb dL_aged_255 rfl (lv_at hl 2 rfl) ?_
                    refine lv_iload_n hx hb dL_aged_256 rfl (lv_at hl 0 rfl) ?_
                    obtain ⟨g31, h⟩ := mm_grn h
                    refine md_dld C hH g31 dL_aged_257 ?_
                    refine lv_icmp_ne (tgt := 279) hx hb dL_aged_258 (by decide) (fun c47 => ?_) (fun c47 => ?_)
                    · have h := mm_neg c47 h
                      have hl := lv_sub (l' := []) hl [] rfl
                      cases h
                    · have h := mm_pos c47 h
                      refine lv_aload_n hx hb dL_aged_261 rfl (lv_at hl 1 rfl) ?_
                      refine lv_iload_n hx hb dL_aged_262 rfl (lv_at hl 3 rfl) ?_
                      refine lv_iconst (v := 1) hx hb dL_aged_263 (by decide) ?_
                      obtain ⟨v50, e50, h⟩ := mm_bnd h
                      refine md_goi hH hA (va_runV (As := [.int a2, .int 1]) (rest := []) ⟨hx, hb, C.2.2.1, C.2.2.2.1, C.2.2.2.2.1⟩ (ct_X4_of l G T b z a2 1 x e50) (cwV 2 C.2.2.2.2.1 gL_aged_X4_of rfl rfl rfl df_X4_of ⟨Nat.le_of_ble_eq_true rfl, Nat.le_of_ble_eq_true rfl⟩) ⟨mm_B.blind, mm_recvL (q := (RX4, TX4, 7)) C hH.1 kl_0 (mm_e4 kd_0) rfl, mm_preL C hH.1 hA⟩ rfl rfl hl.1 rfl (lv_room (Nat.le_of_ble_eq_true rfl)) dL_aged_264 ⟨Nat.zero_le _, Nat.zero_le _⟩) (fun H locs hH => ?_)
                      refine lv_aload_n hx hb dL_aged_267 rfl (lv_at hl 2 rfl) ?_
                      refine lv_iload_n hx hb dL_aged_268 rfl (lv_at hl 0 rfl) ?_
                      refine lv_iconst (v := 1) hx hb dL_aged_269 (by decide) ?_
                      refine lv_iadd hx hb dL_aged_270 ?_
                      obtain ⟨g32, h⟩ := mm_grn h
                      refine md_dld C hH g32 dL_aged_271 ?_
                      refine lv_icmp_ne (tgt := 279) hx hb dL_aged_272 (by decide) (fun c48 => ?_) (fun c48 => ?_)
                      · have h := mm_neg c48 h
                        have hl := lv_sub (l' := []) hl [] rfl
                        cases h
                      · have h := mm_pos c48 h
                        have hl := lv_sub (l' := []) hl [] rfl
                        refine lv_iconst (v := 1) hx hb dL_aged_275 (by decide) ?_
                        refine lv_goto (tgt := 280) hx hb dL_aged_276 (by decide) ?_
                        exact mm_iretP C hH.1 hr hlk rfl h dL_aged_280
        · have h := mm_neg c35 h
          refine lv_iload hx hb dL_aged_102 (lv_at hl 0 rfl) ?_
          refine lv_if_eq (tgt := 111) hx hb dL_aged_104 (by decide) (fun _ => ?_) (fun c => absurd (by decide) c)
          have hl := lv_sub (l' := [(5, .int v3), (4, .int 0), (3, .int v1), (0, .ref (b + 0)), (1, .ref ad), (2, .int a2)]) hl [1, 2, 3, 4, 5, 6] rfl
          refine lv_iconst (v := 0) hx hb dL_aged_111 (by decide) ?_
          refine lv_istore (lv' := [(7, .int 0), (5, .int v3), (4, .int 0), (3, .int v1), (0, .ref (b + 0)), (1, .ref ad), (2, .int a2)]) hx hb dL_aged_112 hl (by decide) rfl (fun ls hl => ?_)
          refine lv_iload hx hb dL_aged_114 (lv_at hl 0 rfl) ?_
          refine lv_if_eq (tgt := 141) hx hb dL_aged_116 (by decide) (fun _ => ?_) (fun c => absurd (by decide) c)
          refine lv_iload hx hb dL_aged_141 (lv_at hl 1 rfl) ?_
          refine lv_istore (lv' := [(5, .int v3), (7, .int 0), (4, .int 0), (3, .int v1), (0, .ref (b + 0)), (1, .ref ad), (2, .int a2)]) hx hb dL_aged_143 hl (by decide) rfl (fun ls hl => ?_)
          refine lv_aload_n hx hb dL_aged_145 rfl (lv_at hl 4 rfl) ?_
          refine lv_iload_n hx hb dL_aged_146 rfl (lv_at hl 6 rfl) ?_
          refine lv_iconst (v := 2) hx hb dL_aged_147 (by decide) ?_
          obtain ⟨v51, e51, h⟩ := mm_bnd h
          refine md_goi hH hA (va_runV (As := [.int a2, .int 2]) (rest := []) ⟨hx, hb, C.2.2.1, C.2.2.2.1, C.2.2.2.2.1⟩ (ct_X4_of l G T b z a2 2 x e51) (cwV 2 C.2.2.2.2.1 gL_aged_X4_of rfl rfl rfl df_X4_of ⟨Nat.le_of_ble_eq_true rfl, Nat.le_of_ble_eq_true rfl⟩) ⟨mm_B.blind, mm_recvL (q := (RX4, TX4, 7)) C hH.1 kl_0 (mm_e4 kd_0) rfl, mm_preL C hH.1 hA⟩ rfl rfl hl.1 rfl (lv_room (Nat.le_of_ble_eq_true rfl)) dL_aged_148 ⟨Nat.zero_le _, Nat.zero_le _⟩) (fun H locs hH => ?_)
          refine lv_iload hx hb dL_aged_151 (lv_at hl 0 rfl) ?_
          refine lv_icmp_ne (tgt := 208) hx hb dL_aged_153 (by decide) (fun c49 => ?_) (fun c49 => ?_)
          · have h := mm_neg c49 h
            have hl := lv_sub (l' := [(7, .int 0), (3, .int v1), (0, .ref (b + 0)), (1, .ref ad), (2, .int a2)]) hl [1, 3, 4, 5, 6] rfl
            cases h
          · have h := mm_pos c49 h
            have hl := lv_sub (l' := [(7, .int 0), (4, .int 0), (3, .int v1), (0, .ref (b + 0)), (1, .ref ad), (2, .int a2)]) hl [1, 2, 3, 4, 5, 6] rfl
            refine lv_aload_n hx hb dL_aged_156 rfl (lv_at hl 3 rfl) ?_
            refine lv_iload_n hx hb dL_aged_157 rfl (lv_at hl 5 rfl) ?_
            refine lv_iconst (v := 5) hx hb dL_aged_158 (by decide) ?_
            obtain ⟨v52, e52, h⟩ := mm_bnd h
            refine md_goi hH hA (va_runV (As := [.int a2, .int 5]) (rest := []) ⟨hx, hb, C.2.2.1, C.2.2.2.1, C.2.2.2.2.1⟩ (ct_X4_of l G T b z a2 5 x e52) (cwV 2 C.2.2.2.2.1 gL_aged_X4_of rfl rfl rfl df_X4_of ⟨Nat.le_of_ble_eq_true rfl, Nat.le_of_ble_eq_true rfl⟩) ⟨mm_B.blind, mm_recvL (q := (RX4, TX4, 7)) C hH.1 kl_0 (mm_e4 kd_0) rfl, mm_preL C hH.1 hA⟩ rfl rfl hl.1 rfl (lv_room (Nat.le_of_ble_eq_true rfl)) dL_aged_159 ⟨Nat.zero_le _, Nat.zero_le _⟩) (fun H locs hH => ?_)
            refine lv_iload hx hb dL_aged_162 (lv_at hl 1 rfl) ?_
            refine lv_if_eq (tgt := 171) hx hb dL_aged_164 (by decide) (fun _ => ?_) (fun c => absurd (by decide) c)
            have hl := lv_sub (l' := [(7, .int 0), (3, .int v1), (0, .ref (b + 0)), (1, .ref ad), (2, .int a2)]) hl [0, 2, 3, 4, 5] rfl
            refine lv_aload_n hx hb dL_aged_171 rfl (lv_at hl 3 rfl) ?_
            refine lv_iload_n hx hb dL_aged_172 rfl (lv_at hl 1 rfl) ?_
            refine lv_iconst (v := 5) hx hb dL_aged_173 (by decide) ?_
            refine lv_iadd hx hb dL_aged_174 ?_
            obtain ⟨g33, h⟩ := mm_grn h
            refine md_dld C hH g33 dL_aged_175 ?_
            refine lv_iconst (v := 1) hx hb dL_aged_176 (by decide) ?_
            refine lv_iadd hx hb dL_aged_177 ?_
            refine lv_icmp_ne (tgt := 208) hx hb dL_aged_178 (by decide) (fun c50 => ?_) (fun c50 => ?_)
            · have h := mm_neg c50 h
              cases h
            · have h := mm_pos c50 h
              refine lv_aload_n hx hb dL_aged_181 rfl (lv_at hl 2 rfl) ?_
              refine lv_iload_n hx hb dL_aged_182 rfl (lv_at hl 4 rfl) ?_
              refine lv_iconst (v := 3) hx hb dL_aged_183 (by decide) ?_
              obtain ⟨v53, e53, h⟩ := mm_bnd h
              refine md_goi hH hA (va_runV (As := [.int a2, .int 3]) (rest := []) ⟨hx, hb, C.2.2.1, C.2.2.2.1, C.2.2.2.2.1⟩ (ct_X4_of l G T b z a2 3 x e53) (cwV 2 C.2.2.2.2.1 gL_aged_X4_of rfl rfl rfl df_X4_of ⟨Nat.le_of_ble_eq_true rfl, Nat.le_of_ble_eq_true rfl⟩) ⟨mm_B.blind, mm_recvL (q := (RX4, TX4, 7)) C hH.1 kl_0 (mm_e4 kd_0) rfl, mm_preL C hH.1 hA⟩ rfl rfl hl.1 rfl (lv_room (Nat.le_of_ble_eq_true rfl)) dL_aged_184 ⟨Nat.zero_le _, Nat.zero_le _⟩) (fun H locs hH => ?_)
              refine lv_iload hx hb dL_aged_187 (lv_at hl 0 rfl) ?_
              refine lv_if_eq (tgt := 196) hx hb dL_aged_189 (by decide) (fun _ => ?_) (fun c => absurd (by decide) c)
              refine lv_aload_n hx hb dL_aged_196 rfl (lv_at hl 3 rfl) ?_
              refine lv_iload_n hx hb dL_aged_197 rfl (lv_at hl 1 rfl) ?_
              refine lv_iconst (v := 3) hx hb dL_aged_198 (by decide) ?_
              refine lv_iadd hx hb dL_aged_199 ?_
              obtain ⟨g34, h⟩ := mm_grn h
              refine md_dld C hH g34 dL_aged_200 ?_
              refine lv_icmp_ne (tgt := 208) hx hb dL_aged_201 (by decide) (fun c51 => ?_) (fun c51 => ?_)
              · have h := mm_neg c51 h
                cases h
              · have h := mm_pos c51 h
                refine lv_iconst (v := 1) hx hb dL_aged_204 (by decide) ?_
                refine lv_goto (tgt := 209) hx hb dL_aged_205 (by decide) ?_
                refine lv_istore (lv' := [(8, .int 1), (7, .int 0), (3, .int v1), (0, .ref (b + 0)), (1, .ref ad), (2, .int a2)]) hx hb dL_aged_209 hl (by decide) rfl (fun ls hl => ?_)
                refine lv_iload hx hb dL_aged_211 (lv_at hl 0 rfl) ?_
                refine lv_if_eq (tgt := 279) hx hb dL_aged_213 (by decide) (fun c => absurd c (by decide)) (fun _ => ?_)
                have hl := lv_sub (l' := [(7, .int 0), (3, .int v1), (0, .ref (b + 0)), (1, .ref ad), (2, .int a2)]) hl [1, 2, 3, 4, 5] rfl
                refine lv_aload_n hx hb dL_aged_216 rfl (lv_at hl 2 rfl) ?_
                refine lv_iload_n hx hb dL_aged_217 rfl (lv_at hl 4 rfl) ?_
                refine lv_iconst (v := 4) hx hb dL_aged_218 (by decide) ?_
                obtain ⟨v54, e54, h⟩ := mm_bnd h
                refine md_goi hH hA (va_runV (As := [.int a2, .int 4]) (rest := []) ⟨hx, hb, C.2.2.1, C.2.2.2.1, C.2.2.2.2.1⟩ (ct_X4_of l G T b z a2 4 x e54) (cwV 2 C.2.2.2.2.1 gL_aged_X4_of rfl rfl rfl df_X4_of ⟨Nat.le_of_ble_eq_true rfl, Nat.le_of_ble_eq_true rfl⟩) ⟨mm_B.blind, mm_recvL (q := (RX4, TX4, 7)) C hH.1 kl_0 (mm_e4 kd_0) rfl, mm_preL C hH.1 hA⟩ rfl rfl hl.1 rfl (lv_room (Nat.le_of_ble_eq_true rfl)) dL_aged_219 ⟨Nat.zero_le _, Nat.zero_le _⟩) (fun H locs hH => ?_)
                refine lv_iload hx hb dL_aged_222 (lv_at hl 0 rfl) ?_
                refine lv_if_ne (tgt := 235) hx hb dL_aged_224 (by decide) (fun c => absurd (by decide) c) (fun _ => ?_)
                have hl := lv_sub (l' := [(3, .int v1), (0, .ref (b + 0)), (1, .ref ad), (2, .int a2)]) hl [1, 2, 3, 4] rfl
                refine lv_aload_n hx hb dL_aged_227 rfl (lv_at hl 2 rfl) ?_
                refine lv_iload_n hx hb dL_aged_228 rfl (lv_at hl 0 rfl) ?_
                refine lv_iconst (v := 3) hx hb dL_aged_229 (by decide) ?_
                refine lv_iadd hx hb dL_aged_230 ?_
                obtain ⟨g35, h⟩ := mm_grn h
                refine md_dld C hH g35 dL_aged_231 ?_
                refine lv_if_ne (tgt := 239) hx hb dL_aged_232 (by decide) (fun _ => ?_) (fun c => absurd (c2.symm.trans c) (by decide))
                refine lv_aload_n hx hb dL_aged_239 rfl (lv_at hl 2 rfl) ?_
                refine lv_iload_n hx hb dL_aged_240 rfl (lv_at hl 0 rfl) ?_
                refine lv_iconst (v := 4) hx hb dL_aged_241 (by decide) ?_
                refine lv_iadd hx hb dL_aged_242 ?_
                obtain ⟨g36, h⟩ := mm_grn h
                refine md_dld C hH g36 dL_aged_243 ?_
                refine lv_iconst (v := 1) hx hb dL_aged_244 (by decide) ?_
                refine lv_iadd hx hb dL_aged_245 ?_
                refine lv_icmp_ne (tgt := 279) hx hb dL_aged_246 (by decide) (fun c52 => ?_) (fun c52 => ?_)
                · have h := mm_neg c52 h
                  have hl := lv_sub (l' := []) hl [] rfl
                  cases h
                · have h := mm_pos c52 h
                  refine lv_aload_n hx hb dL_aged_249 rfl (lv_at hl 1 rfl) ?_
                  refine lv_iload_n hx hb dL_aged_250 rfl (lv_at hl 3 rfl) ?_
                  refine lv_iconst (v := 0) hx hb dL_aged_251 (by decide) ?_
                  obtain ⟨v55, e55, h⟩ := mm_bnd h
                  refine md_goi hH hA (va_runV (As := [.int a2, .int 0]) (rest := []) ⟨hx, hb, C.2.2.1, C.2.2.2.1, C.2.2.2.2.1⟩ (ct_X4_of l G T b z a2 0 x e55) (cwV 2 C.2.2.2.2.1 gL_aged_X4_of rfl rfl rfl df_X4_of ⟨Nat.le_of_ble_eq_true rfl, Nat.le_of_ble_eq_true rfl⟩) ⟨mm_B.blind, mm_recvL (q := (RX4, TX4, 7)) C hH.1 kl_0 (mm_e4 kd_0) rfl, mm_preL C hH.1 hA⟩ rfl rfl hl.1 rfl (lv_room (Nat.le_of_ble_eq_true rfl)) dL_aged_252 ⟨Nat.zero_le _, Nat.zero_le _⟩) (fun H locs hH => ?_)
                  refine lv_aload_n hx hb dL_aged_255 rfl (lv_at hl 2 rfl) ?_
                  refine lv_iload_n hx hb dL_aged_256 rfl (lv_at hl 0 rfl) ?_
                  obtain ⟨g37, h⟩ := mm_grn h
                  refine md_dld C hH g37 dL_aged_257 ?_
                  refine lv_icmp_ne (tgt := 279) hx hb dL_aged_258 (by decide) (fun c53 => ?_) (fun c53 => ?_)
                  · have h := mm_neg c53 h
                    have hl := lv_sub (l' := []) hl [] rfl
                    cases h
                  · have h := mm_pos c53 h
                    refine lv_aload_n hx hb dL_aged_261 rfl (lv_at hl 1 rfl) ?_
                    refine lv_iload_n hx hb dL_aged_262 rfl (lv_at hl 3 rfl) ?_
                    refine lv_iconst (v := 1) hx hb dL_aged_263 (by decide) ?_
                    obtain ⟨v56, e56, h⟩ := mm_bnd h
                    refine md_goi hH hA (va_runV (As := [.int a2, .int 1]) (rest := []) ⟨hx, hb, C.2.2.1, C.2.2.2.1, C.2.2.2.2.1⟩ (ct_X4_of l G T b z a2 1 x e56) (cwV 2 C.2.2.2.2.1 gL_aged_X4_of rfl rfl rfl df_X4_of ⟨Nat.le_of_ble_eq_true rfl, Nat.le_of_ble_eq_true rfl⟩) ⟨mm_B.blind, mm_recvL (q := (RX4, TX4, 7)) C hH.1 kl_0 (mm_e4 kd_0) rfl, mm_preL C hH.1 hA⟩ rfl rfl hl.1 rfl (lv_room (Nat.le_of_ble_eq_true rfl)) dL_aged_264 ⟨Nat.zero_le _, Nat.zero_le _⟩) (fun H locs hH => ?_)
                    refine lv_aload_n hx hb dL_aged_267 rfl (lv_at hl 2 rfl) ?_
                    refine lv_iload_n hx hb dL_aged_268 rfl (lv_at hl 0 rfl) ?_
                    refine lv_iconst (v := 1) hx hb dL_aged_269 (by decide) ?_
                    refine lv_iadd hx hb dL_aged_270 ?_
                    obtain ⟨g38, h⟩ := mm_grn h
                    refine md_dld C hH g38 dL_aged_271 ?_
                    refine lv_icmp_ne (tgt := 279) hx hb dL_aged_272 (by decide) (fun c54 => ?_) (fun c54 => ?_)
                    · have h := mm_neg c54 h
                      have hl := lv_sub (l' := []) hl [] rfl
                      cases h
                    · have h := mm_pos c54 h
                      have hl := lv_sub (l' := []) hl [] rfl
                      refine lv_iconst (v := 1) hx hb dL_aged_275 (by decide) ?_
                      refine lv_goto (tgt := 280) hx hb dL_aged_276 (by decide) ?_
                      exact mm_iretP C hH.1 hr hlk rfl h dL_aged_280
      · have h := mm_neg c34 h
        refine lv_iconst (v := 1) hx hb dL_aged_75 (by decide) ?_
        refine lv_goto (tgt := 80) hx hb dL_aged_76 (by decide) ?_
        refine lv_istore (lv' := [(6, .int 1), (5, .int v3), (4, .int 0), (3, .int v1), (0, .ref (b + 0)), (1, .ref ad), (2, .int a2)]) hx hb dL_aged_80 hl (by decide) rfl (fun ls hl => ?_)
        refine lv_aload_n hx hb dL_aged_82 rfl (lv_at hl 5 rfl) ?_
        refine lv_iload_n hx hb dL_aged_83 rfl (lv_at hl 3 rfl) ?_
        refine lv_iconst (v := 3) hx hb dL_aged_84 (by decide) ?_
        refine lv_iadd hx hb dL_aged_85 ?_
        obtain ⟨g39, h⟩ := mm_grn h
        refine md_dld C hH g39 dL_aged_86 ?_
        refine lv_iconst (v := 1) hx hb dL_aged_87 (by decide) ?_
        refine lv_icmp_ne (tgt := 111) hx hb dL_aged_88 (by decide) (fun c => absurd c2 c) (fun _ => ?_)
        refine lv_iload hx hb dL_aged_91 (lv_at hl 1 rfl) ?_
        refine lv_aload_n hx hb dL_aged_93 rfl (lv_at hl 4 rfl) ?_
        refine lv_bipush (v := 12) hx hb dL_aged_94 (by decide) ?_
        obtain ⟨v57, e57, h⟩ := mm_bnd h
        refine md_goi hH hA (va_runV (As := [.int 12]) (rest := [.int v3]) ⟨hx, hb, C.2.2.1, C.2.2.2.1, C.2.2.2.2.1⟩ (ct_X4_count l G T b z 12 x e57) (cwV 1 C.2.2.2.2.1 gL_aged_X4_count rfl rfl rfl df_X4_count ⟨Nat.le_of_ble_eq_true rfl, Nat.le_of_ble_eq_true rfl⟩) ⟨mm_B.blind, mm_recvL (q := (RX4, TX4, 7)) C hH.1 kl_0 (mm_e4 kd_0) rfl, mm_preL C hH.1 hA⟩ rfl rfl hl.1 rfl (lv_room (Nat.le_of_ble_eq_true rfl)) dL_aged_96 ⟨Nat.zero_le _, Nat.zero_le _⟩) (fun H locs hH => ?_)
        refine lv_icmp_lt (tgt := 107) hx hb dL_aged_99 (by decide) (fun c55 => ?_) (fun c55 => ?_)
        · have h := mm_pos c55 h
          have hl := lv_sub (l' := [(5, .int v3), (4, .int 0), (3, .int v1), (0, .ref (b + 0)), (1, .ref ad), (2, .int a2)]) hl [1, 2, 3, 4, 5, 6] rfl
          refine lv_iconst (v := 1) hx hb dL_aged_107 (by decide) ?_
          refine lv_goto (tgt := 112) hx hb dL_aged_108 (by decide) ?_
          refine lv_istore (lv' := [(7, .int 1), (5, .int v3), (4, .int 0), (3, .int v1), (0, .ref (b + 0)), (1, .ref ad), (2, .int a2)]) hx hb dL_aged_112 hl (by decide) rfl (fun ls hl => ?_)
          refine lv_iload hx hb dL_aged_114 (lv_at hl 0 rfl) ?_
          refine lv_if_eq (tgt := 141) hx hb dL_aged_116 (by decide) (fun c => absurd c (by decide)) (fun _ => ?_)
          refine lv_iload hx hb dL_aged_119 (lv_at hl 1 rfl) ?_
          refine lv_aload_n hx hb dL_aged_121 rfl (lv_at hl 4 rfl) ?_
          refine lv_bipush (v := 12) hx hb dL_aged_122 (by decide) ?_
          obtain ⟨v58, e58, h⟩ := mm_bnd h
          refine md_goi hH hA (va_runV (As := [.int 12]) (rest := [.int v3]) ⟨hx, hb, C.2.2.1, C.2.2.2.1, C.2.2.2.2.1⟩ (ct_X4_count l G T b z 12 x e58) (cwV 1 C.2.2.2.2.1 gL_aged_X4_count rfl rfl rfl df_X4_count ⟨Nat.le_of_ble_eq_true rfl, Nat.le_of_ble_eq_true rfl⟩) ⟨mm_B.blind, mm_recvL (q := (RX4, TX4, 7)) C hH.1 kl_0 (mm_e4 kd_0) rfl, mm_preL C hH.1 hA⟩ rfl rfl hl.1 rfl (lv_room (Nat.le_of_ble_eq_true rfl)) dL_aged_124 ⟨Nat.zero_le _, Nat.zero_le _⟩) (fun H locs hH => ?_)
          refine lv_icmp_lt (tgt := 141) hx hb dL_aged_127 (by decide) (fun c56 => ?_) (fun c56 => ?_)
          · have h := mm_pos c56 h
            refine lv_iload hx hb dL_aged_141 (lv_at hl 1 rfl) ?_
            refine lv_istore (lv' := [(5, .int v3), (7, .int 1), (4, .int 0), (3, .int v1), (0, .ref (b + 0)), (1, .ref ad), (2, .int a2)]) hx hb dL_aged_143 hl (by decide) rfl (fun ls hl => ?_)
            refine lv_aload_n hx hb dL_aged_145 rfl (lv_at hl 4 rfl) ?_
            refine lv_iload_n hx hb dL_aged_146 rfl (lv_at hl 6 rfl) ?_
            refine lv_iconst (v := 2) hx hb dL_aged_147 (by decide) ?_
            obtain ⟨v59, e59, h⟩ := mm_bnd h
            refine md_goi hH hA (va_runV (As := [.int a2, .int 2]) (rest := []) ⟨hx, hb, C.2.2.1, C.2.2.2.1, C.2.2.2.2.1⟩ (ct_X4_of l G T b z a2 2 x e59) (cwV 2 C.2.2.2.2.1 gL_aged_X4_of rfl rfl rfl df_X4_of ⟨Nat.le_of_ble_eq_true rfl, Nat.le_of_ble_eq_true rfl⟩) ⟨mm_B.blind, mm_recvL (q := (RX4, TX4, 7)) C hH.1 kl_0 (mm_e4 kd_0) rfl, mm_preL C hH.1 hA⟩ rfl rfl hl.1 rfl (lv_room (Nat.le_of_ble_eq_true rfl)) dL_aged_148 ⟨Nat.zero_le _, Nat.zero_le _⟩) (fun H locs hH => ?_)
            refine lv_iload hx hb dL_aged_151 (lv_at hl 0 rfl) ?_
            refine lv_icmp_ne (tgt := 208) hx hb dL_aged_153 (by decide) (fun c57 => ?_) (fun c57 => ?_)
            · have h := mm_neg c57 h
              have hl := lv_sub (l' := [(7, .int 1), (3, .int v1), (0, .ref (b + 0)), (1, .ref ad), (2, .int a2)]) hl [1, 3, 4, 5, 6] rfl
              cases h
            · have h := mm_pos c57 h
              have hl := lv_sub (l' := [(7, .int 1), (4, .int 0), (3, .int v1), (0, .ref (b + 0)), (1, .ref ad), (2, .int a2)]) hl [1, 2, 3, 4, 5, 6] rfl
              refine lv_aload_n hx hb dL_aged_156 rfl (lv_at hl 3 rfl) ?_
              refine lv_iload_n hx hb dL_aged_157 rfl (lv_at hl 5 rfl) ?_
              refine lv_iconst (v := 5) hx hb dL_aged_158 (by decide) ?_
              obtain ⟨v60, e60, h⟩ := mm_bnd h
              refine md_goi hH hA (va_runV (As := [.int a2, .int 5]) (rest := []) ⟨hx, hb, C.2.2.1, C.2.2.2.1, C.2.2.2.2.1⟩ (ct_X4_of l G T b z a2 5 x e60) (cwV 2 C.2.2.2.2.1 gL_aged_X4_of rfl rfl rfl df_X4_of ⟨Nat.le_of_ble_eq_true rfl, Nat.le_of_ble_eq_true rfl⟩) ⟨mm_B.blind, mm_recvL (q := (RX4, TX4, 7)) C hH.1 kl_0 (mm_e4 kd_0) rfl, mm_preL C hH.1 hA⟩ rfl rfl hl.1 rfl (lv_room (Nat.le_of_ble_eq_true rfl)) dL_aged_159 ⟨Nat.zero_le _, Nat.zero_le _⟩) (fun H locs hH => ?_)
              refine lv_iload hx hb dL_aged_162 (lv_at hl 1 rfl) ?_
              refine lv_if_eq (tgt := 171) hx hb dL_aged_164 (by decide) (fun _ => ?_) (fun c => absurd (by decide) c)
              have hl := lv_sub (l' := [(7, .int 1), (3, .int v1), (0, .ref (b + 0)), (1, .ref ad), (2, .int a2)]) hl [0, 2, 3, 4, 5] rfl
              refine lv_aload_n hx hb dL_aged_171 rfl (lv_at hl 3 rfl) ?_
              refine lv_iload_n hx hb dL_aged_172 rfl (lv_at hl 1 rfl) ?_
              refine lv_iconst (v := 5) hx hb dL_aged_173 (by decide) ?_
              refine lv_iadd hx hb dL_aged_174 ?_
              obtain ⟨g40, h⟩ := mm_grn h
              refine md_dld C hH g40 dL_aged_175 ?_
              refine lv_iconst (v := 1) hx hb dL_aged_176 (by decide) ?_
              refine lv_iadd hx hb dL_aged_177 ?_
              refine lv_icmp_ne (tgt := 208) hx hb dL_aged_178 (by decide) (fun c58 => ?_) (fun c58 => ?_)
              · have h := mm_neg c58 h
                cases h
              · have h := mm_pos c58 h
                refine lv_aload_n hx hb dL_aged_181 rfl (lv_at hl 2 rfl) ?_
                refine lv_iload_n hx hb dL_aged_182 rfl (lv_at hl 4 rfl) ?_
                refine lv_iconst (v := 3) hx hb dL_aged_183 (by decide) ?_
                obtain ⟨v61, e61, h⟩ := mm_bnd h
                refine md_goi hH hA (va_runV (As := [.int a2, .int 3]) (rest := []) ⟨hx, hb, C.2.2.1, C.2.2.2.1, C.2.2.2.2.1⟩ (ct_X4_of l G T b z a2 3 x e61) (cwV 2 C.2.2.2.2.1 gL_aged_X4_of rfl rfl rfl df_X4_of ⟨Nat.le_of_ble_eq_true rfl, Nat.le_of_ble_eq_true rfl⟩) ⟨mm_B.blind, mm_recvL (q := (RX4, TX4, 7)) C hH.1 kl_0 (mm_e4 kd_0) rfl, mm_preL C hH.1 hA⟩ rfl rfl hl.1 rfl (lv_room (Nat.le_of_ble_eq_true rfl)) dL_aged_184 ⟨Nat.zero_le _, Nat.zero_le _⟩) (fun H locs hH => ?_)
                refine lv_iload hx hb dL_aged_187 (lv_at hl 0 rfl) ?_
                refine lv_if_eq (tgt := 196) hx hb dL_aged_189 (by decide) (fun c => absurd c (by decide)) (fun _ => ?_)
                refine lv_iconst (v := 0) hx hb dL_aged_192 (by decide) ?_
                refine lv_goto (tgt := 201) hx hb dL_aged_193 (by decide) ?_
                refine lv_icmp_ne (tgt := 208) hx hb dL_aged_201 (by decide) (fun c59 => ?_) (fun c59 => ?_)
                · have h := mm_neg c59 h
                  cases h
                · have h := mm_pos c59 h
                  refine lv_iconst (v := 1) hx hb dL_aged_204 (by decide) ?_
                  refine lv_goto (tgt := 209) hx hb dL_aged_205 (by decide) ?_
                  refine lv_istore (lv' := [(8, .int 1), (7, .int 1), (3, .int v1), (0, .ref (b + 0)), (1, .ref ad), (2, .int a2)]) hx hb dL_aged_209 hl (by decide) rfl (fun ls hl => ?_)
                  refine lv_iload hx hb dL_aged_211 (lv_at hl 0 rfl) ?_
                  refine lv_if_eq (tgt := 279) hx hb dL_aged_213 (by decide) (fun c => absurd c (by decide)) (fun _ => ?_)
                  have hl := lv_sub (l' := [(7, .int 1), (3, .int v1), (0, .ref (b + 0)), (1, .ref ad), (2, .int a2)]) hl [1, 2, 3, 4, 5] rfl
                  refine lv_aload_n hx hb dL_aged_216 rfl (lv_at hl 2 rfl) ?_
                  refine lv_iload_n hx hb dL_aged_217 rfl (lv_at hl 4 rfl) ?_
                  refine lv_iconst (v := 4) hx hb dL_aged_218 (by decide) ?_
                  obtain ⟨v62, e62, h⟩ := mm_bnd h
                  refine md_goi hH hA (va_runV (As := [.int a2, .int 4]) (rest := []) ⟨hx, hb, C.2.2.1, C.2.2.2.1, C.2.2.2.2.1⟩ (ct_X4_of l G T b z a2 4 x e62) (cwV 2 C.2.2.2.2.1 gL_aged_X4_of rfl rfl rfl df_X4_of ⟨Nat.le_of_ble_eq_true rfl, Nat.le_of_ble_eq_true rfl⟩) ⟨mm_B.blind, mm_recvL (q := (RX4, TX4, 7)) C hH.1 kl_0 (mm_e4 kd_0) rfl, mm_preL C hH.1 hA⟩ rfl rfl hl.1 rfl (lv_room (Nat.le_of_ble_eq_true rfl)) dL_aged_219 ⟨Nat.zero_le _, Nat.zero_le _⟩) (fun H locs hH => ?_)
                  refine lv_iload hx hb dL_aged_222 (lv_at hl 0 rfl) ?_
                  refine lv_if_ne (tgt := 235) hx hb dL_aged_224 (by decide) (fun _ => ?_) (fun c => absurd c (by decide))
                  have hl := lv_sub (l' := [(3, .int v1), (0, .ref (b + 0)), (1, .ref ad), (2, .int a2)]) hl [1, 2, 3, 4] rfl
                  refine lv_iconst (v := 0) hx hb dL_aged_235 (by decide) ?_
                  refine lv_goto (tgt := 246) hx hb dL_aged_236 (by decide) ?_
                  refine lv_icmp_ne (tgt := 279) hx hb dL_aged_246 (by decide) (fun c60 => ?_) (fun c60 => ?_)
                  · have h := mm_neg c60 h
                    have hl := lv_sub (l' := []) hl [] rfl
                    cases h
                  · have h := mm_pos c60 h
                    refine lv_aload_n hx hb dL_aged_249 rfl (lv_at hl 1 rfl) ?_
                    refine lv_iload_n hx hb dL_aged_250 rfl (lv_at hl 3 rfl) ?_
                    refine lv_iconst (v := 0) hx hb dL_aged_251 (by decide) ?_
                    obtain ⟨v63, e63, h⟩ := mm_bnd h
                    refine md_goi hH hA (va_runV (As := [.int a2, .int 0]) (rest := []) ⟨hx, hb, C.2.2.1, C.2.2.2.1, C.2.2.2.2.1⟩ (ct_X4_of l G T b z a2 0 x e63) (cwV 2 C.2.2.2.2.1 gL_aged_X4_of rfl rfl rfl df_X4_of ⟨Nat.le_of_ble_eq_true rfl, Nat.le_of_ble_eq_true rfl⟩) ⟨mm_B.blind, mm_recvL (q := (RX4, TX4, 7)) C hH.1 kl_0 (mm_e4 kd_0) rfl, mm_preL C hH.1 hA⟩ rfl rfl hl.1 rfl (lv_room (Nat.le_of_ble_eq_true rfl)) dL_aged_252 ⟨Nat.zero_le _, Nat.zero_le _⟩) (fun H locs hH => ?_)
                    refine lv_aload_n hx hb dL_aged_255 rfl (lv_at hl 2 rfl) ?_
                    refine lv_iload_n hx hb dL_aged_256 rfl (lv_at hl 0 rfl) ?_
                    obtain ⟨g41, h⟩ := mm_grn h
                    refine md_dld C hH g41 dL_aged_257 ?_
                    refine lv_icmp_ne (tgt := 279) hx hb dL_aged_258 (by decide) (fun c61 => ?_) (fun c61 => ?_)
                    · have h := mm_neg c61 h
                      have hl := lv_sub (l' := []) hl [] rfl
                      cases h
                    · have h := mm_pos c61 h
                      refine lv_aload_n hx hb dL_aged_261 rfl (lv_at hl 1 rfl) ?_
                      refine lv_iload_n hx hb dL_aged_262 rfl (lv_at hl 3 rfl) ?_
                      refine lv_iconst (v := 1) hx hb dL_aged_263 (by decide) ?_
                      obtain ⟨v64, e64, h⟩ := mm_bnd h
                      refine md_goi hH hA (va_runV (As := [.int a2, .int 1]) (rest := []) ⟨hx, hb, C.2.2.1, C.2.2.2.1, C.2.2.2.2.1⟩ (ct_X4_of l G T b z a2 1 x e64) (cwV 2 C.2.2.2.2.1 gL_aged_X4_of rfl rfl rfl df_X4_of ⟨Nat.le_of_ble_eq_true rfl, Nat.le_of_ble_eq_true rfl⟩) ⟨mm_B.blind, mm_recvL (q := (RX4, TX4, 7)) C hH.1 kl_0 (mm_e4 kd_0) rfl, mm_preL C hH.1 hA⟩ rfl rfl hl.1 rfl (lv_room (Nat.le_of_ble_eq_true rfl)) dL_aged_264 ⟨Nat.zero_le _, Nat.zero_le _⟩) (fun H locs hH => ?_)
                      refine lv_aload_n hx hb dL_aged_267 rfl (lv_at hl 2 rfl) ?_
                      refine lv_iload_n hx hb dL_aged_268 rfl (lv_at hl 0 rfl) ?_
                      refine lv_iconst (v := 1) hx hb dL_aged_269 (by decide) ?_
                      refine lv_iadd hx hb dL_aged_270 ?_
                      obtain ⟨g42, h⟩ := mm_grn h
                      refine md_dld C hH g42 dL_aged_271 ?_
                      refine lv_icmp_ne (tgt := 279) hx hb dL_aged_272 (by decide) (fun c62 => ?_) (fun c62 => ?_)
                      · have h := mm_neg c62 h
                        have hl := lv_sub (l' := []) hl [] rfl
                        cases h
                      · have h := mm_pos c62 h
                        have hl := lv_sub (l' := []) hl [] rfl
                        refine lv_iconst (v := 1) hx hb dL_aged_275 (by decide) ?_
                        refine lv_goto (tgt := 280) hx hb dL_aged_276 (by decide) ?_
                        exact mm_iretP C hH.1 hr hlk rfl h dL_aged_280
          · have h := mm_neg c56 h
            have hl := lv_sub (l' := [(7, .int 1), (4, .int 0), (3, .int v1), (0, .ref (b + 0)), (1, .ref ad), (2, .int a2)]) hl [0, 2, 3, 4, 5, 6] rfl
            refine lv_aload_n hx hb dL_aged_130 rfl (lv_at hl 3 rfl) ?_
            refine lv_bipush (v := 12) hx hb dL_aged_131 (by decide) ?_
            obtain ⟨v65, e65, h⟩ := mm_bnd h
            refine md_goi hH hA (va_runV (As := [.int 12]) (rest := []) ⟨hx, hb, C.2.2.1, C.2.2.2.1, C.2.2.2.2.1⟩ (ct_X4_count l G T b z 12 x e65) (cwV 1 C.2.2.2.2.1 gL_aged_X4_count rfl rfl rfl df_X4_count ⟨Nat.le_of_ble_eq_true rfl, Nat.le_of_ble_eq_true rfl⟩) ⟨mm_B.blind, mm_recvL (q := (RX4, TX4, 7)) C hH.1 kl_0 (mm_e4 kd_0) rfl, mm_preL C hH.1 hA⟩ rfl rfl hl.1 rfl (lv_room (Nat.le_of_ble_eq_true rfl)) dL_aged_133 ⟨Nat.zero_le _, Nat.zero_le _⟩) (fun H locs hH => ?_)
            refine lv_iconst (v := 1) hx hb dL_aged_136 (by decide) ?_
            refine lv_isub hx hb dL_aged_137 ?_
            refine lv_goto (tgt := 143) hx hb dL_aged_138 (by decide) ?_
            obtain ⟨v66, e66, h⟩ := mm_bnd h
            refine mm_nmi e66 ?_
            refine lv_istore (lv' := [(5, .int v66), (7, .int 1), (4, .int 0), (3, .int v1), (0, .ref (b + 0)), (1, .ref ad), (2, .int a2)]) hx hb dL_aged_143 hl (by decide) rfl (fun ls hl => ?_)
            refine lv_aload_n hx hb dL_aged_145 rfl (lv_at hl 4 rfl) ?_
            refine lv_iload_n hx hb dL_aged_146 rfl (lv_at hl 6 rfl) ?_
            refine lv_iconst (v := 2) hx hb dL_aged_147 (by decide) ?_
            obtain ⟨v67, e67, h⟩ := mm_bnd h
            refine md_goi hH hA (va_runV (As := [.int a2, .int 2]) (rest := []) ⟨hx, hb, C.2.2.1, C.2.2.2.1, C.2.2.2.2.1⟩ (ct_X4_of l G T b z a2 2 x e67) (cwV 2 C.2.2.2.2.1 gL_aged_X4_of rfl rfl rfl df_X4_of ⟨Nat.le_of_ble_eq_true rfl, Nat.le_of_ble_eq_true rfl⟩) ⟨mm_B.blind, mm_recvL (q := (RX4, TX4, 7)) C hH.1 kl_0 (mm_e4 kd_0) rfl, mm_preL C hH.1 hA⟩ rfl rfl hl.1 rfl (lv_room (Nat.le_of_ble_eq_true rfl)) dL_aged_148 ⟨Nat.zero_le _, Nat.zero_le _⟩) (fun H locs hH => ?_)
            refine lv_iload hx hb dL_aged_151 (lv_at hl 0 rfl) ?_
            refine lv_icmp_ne (tgt := 208) hx hb dL_aged_153 (by decide) (fun c63 => ?_) (fun c63 => ?_)
            · have h := mm_neg c63 h
              have hl := lv_sub (l' := [(7, .int 1), (3, .int v1), (0, .ref (b + 0)), (1, .ref ad), (2, .int a2)]) hl [1, 3, 4, 5, 6] rfl
              cases h
            · have h := mm_pos c63 h
              have hl := lv_sub (l' := [(7, .int 1), (4, .int 0), (3, .int v1), (0, .ref (b + 0)), (1, .ref ad), (2, .int a2)]) hl [1, 2, 3, 4, 5, 6] rfl
              refine lv_aload_n hx hb dL_aged_156 rfl (lv_at hl 3 rfl) ?_
              refine lv_iload_n hx hb dL_aged_157 rfl (lv_at hl 5 rfl) ?_
              refine lv_iconst (v := 5) hx hb dL_aged_158 (by decide) ?_
              obtain ⟨v68, e68, h⟩ := mm_bnd h
              refine md_goi hH hA (va_runV (As := [.int a2, .int 5]) (rest := []) ⟨hx, hb, C.2.2.1, C.2.2.2.1, C.2.2.2.2.1⟩ (ct_X4_of l G T b z a2 5 x e68) (cwV 2 C.2.2.2.2.1 gL_aged_X4_of rfl rfl rfl df_X4_of ⟨Nat.le_of_ble_eq_true rfl, Nat.le_of_ble_eq_true rfl⟩) ⟨mm_B.blind, mm_recvL (q := (RX4, TX4, 7)) C hH.1 kl_0 (mm_e4 kd_0) rfl, mm_preL C hH.1 hA⟩ rfl rfl hl.1 rfl (lv_room (Nat.le_of_ble_eq_true rfl)) dL_aged_159 ⟨Nat.zero_le _, Nat.zero_le _⟩) (fun H locs hH => ?_)
              refine lv_iload hx hb dL_aged_162 (lv_at hl 1 rfl) ?_
              refine lv_if_eq (tgt := 171) hx hb dL_aged_164 (by decide) (fun _ => ?_) (fun c => absurd (by decide) c)
              have hl := lv_sub (l' := [(7, .int 1), (3, .int v1), (0, .ref (b + 0)), (1, .ref ad), (2, .int a2)]) hl [0, 2, 3, 4, 5] rfl
              refine lv_aload_n hx hb dL_aged_171 rfl (lv_at hl 3 rfl) ?_
              refine lv_iload_n hx hb dL_aged_172 rfl (lv_at hl 1 rfl) ?_
              refine lv_iconst (v := 5) hx hb dL_aged_173 (by decide) ?_
              refine lv_iadd hx hb dL_aged_174 ?_
              obtain ⟨g43, h⟩ := mm_grn h
              refine md_dld C hH g43 dL_aged_175 ?_
              refine lv_iconst (v := 1) hx hb dL_aged_176 (by decide) ?_
              refine lv_iadd hx hb dL_aged_177 ?_
              refine lv_icmp_ne (tgt := 208) hx hb dL_aged_178 (by decide) (fun c64 => ?_) (fun c64 => ?_)
              · have h := mm_neg c64 h
                cases h
              · have h := mm_pos c64 h
                refine lv_aload_n hx hb dL_aged_181 rfl (lv_at hl 2 rfl) ?_
                refine lv_iload_n hx hb dL_aged_182 rfl (lv_at hl 4 rfl) ?_
                refine lv_iconst (v := 3) hx hb dL_aged_183 (by decide) ?_
                obtain ⟨v69, e69, h⟩ := mm_bnd h
                refine md_goi hH hA (va_runV (As := [.int a2, .int 3]) (rest := []) ⟨hx, hb, C.2.2.1, C.2.2.2.1, C.2.2.2.2.1⟩ (ct_X4_of l G T b z a2 3 x e69) (cwV 2 C.2.2.2.2.1 gL_aged_X4_of rfl rfl rfl df_X4_of ⟨Nat.le_of_ble_eq_true rfl, Nat.le_of_ble_eq_true rfl⟩) ⟨mm_B.blind, mm_recvL (q := (RX4, TX4, 7)) C hH.1 kl_0 (mm_e4 kd_0) rfl, mm_preL C hH.1 hA⟩ rfl rfl hl.1 rfl (lv_room (Nat.le_of_ble_eq_true rfl)) dL_aged_184 ⟨Nat.zero_le _, Nat.zero_le _⟩) (fun H locs hH => ?_)
                refine lv_iload hx hb dL_aged_187 (lv_at hl 0 rfl) ?_
                refine lv_if_eq (tgt := 196) hx hb dL_aged_189 (by decide) (fun c => absurd c (by decide)) (fun _ => ?_)
                refine lv_iconst (v := 0) hx hb dL_aged_192 (by decide) ?_
                refine lv_goto (tgt := 201) hx hb dL_aged_193 (by decide) ?_
                refine lv_icmp_ne (tgt := 208) hx hb dL_aged_201 (by decide) (fun c65 => ?_) (fun c65 => ?_)
                · have h := mm_neg c65 h
                  cases h
                · have h := mm_pos c65 h
                  refine lv_iconst (v := 1) hx hb dL_aged_204 (by decide) ?_
                  refine lv_goto (tgt := 209) hx hb dL_aged_205 (by decide) ?_
                  refine lv_istore (lv' := [(8, .int 1), (7, .int 1), (3, .int v1), (0, .ref (b + 0)), (1, .ref ad), (2, .int a2)]) hx hb dL_aged_209 hl (by decide) rfl (fun ls hl => ?_)
                  refine lv_iload hx hb dL_aged_211 (lv_at hl 0 rfl) ?_
                  refine lv_if_eq (tgt := 279) hx hb dL_aged_213 (by decide) (fun c => absurd c (by decide)) (fun _ => ?_)
                  have hl := lv_sub (l' := [(7, .int 1), (3, .int v1), (0, .ref (b + 0)), (1, .ref ad), (2, .int a2)]) hl [1, 2, 3, 4, 5] rfl
                  refine lv_aload_n hx hb dL_aged_216 rfl (lv_at hl 2 rfl) ?_
                  refine lv_iload_n hx hb dL_aged_217 rfl (lv_at hl 4 rfl) ?_
                  refine lv_iconst (v := 4) hx hb dL_aged_218 (by decide) ?_
                  obtain ⟨v70, e70, h⟩ := mm_bnd h
                  refine md_goi hH hA (va_runV (As := [.int a2, .int 4]) (rest := []) ⟨hx, hb, C.2.2.1, C.2.2.2.1, C.2.2.2.2.1⟩ (ct_X4_of l G T b z a2 4 x e70) (cwV 2 C.2.2.2.2.1 gL_aged_X4_of rfl rfl rfl df_X4_of ⟨Nat.le_of_ble_eq_true rfl, Nat.le_of_ble_eq_true rfl⟩) ⟨mm_B.blind, mm_recvL (q := (RX4, TX4, 7)) C hH.1 kl_0 (mm_e4 kd_0) rfl, mm_preL C hH.1 hA⟩ rfl rfl hl.1 rfl (lv_room (Nat.le_of_ble_eq_true rfl)) dL_aged_219 ⟨Nat.zero_le _, Nat.zero_le _⟩) (fun H locs hH => ?_)
                  refine lv_iload hx hb dL_aged_222 (lv_at hl 0 rfl) ?_
                  refine lv_if_ne (tgt := 235) hx hb dL_aged_224 (by decide) (fun _ => ?_) (fun c => absurd c (by decide))
                  have hl := lv_sub (l' := [(3, .int v1), (0, .ref (b + 0)), (1, .ref ad), (2, .int a2)]) hl [1, 2, 3, 4] rfl
                  refine lv_iconst (v := 0) hx hb dL_aged_235 (by decide) ?_
                  refine lv_goto (tgt := 246) hx hb dL_aged_236 (by decide) ?_
                  refine lv_icmp_ne (tgt := 279) hx hb dL_aged_246 (by decide) (fun c66 => ?_) (fun c66 => ?_)
                  · have h := mm_neg c66 h
                    have hl := lv_sub (l' := []) hl [] rfl
                    cases h
                  · have h := mm_pos c66 h
                    refine lv_aload_n hx hb dL_aged_249 rfl (lv_at hl 1 rfl) ?_
                    refine lv_iload_n hx hb dL_aged_250 rfl (lv_at hl 3 rfl) ?_
                    refine lv_iconst (v := 0) hx hb dL_aged_251 (by decide) ?_
                    obtain ⟨v71, e71, h⟩ := mm_bnd h
                    refine md_goi hH hA (va_runV (As := [.int a2, .int 0]) (rest := []) ⟨hx, hb, C.2.2.1, C.2.2.2.1, C.2.2.2.2.1⟩ (ct_X4_of l G T b z a2 0 x e71) (cwV 2 C.2.2.2.2.1 gL_aged_X4_of rfl rfl rfl df_X4_of ⟨Nat.le_of_ble_eq_true rfl, Nat.le_of_ble_eq_true rfl⟩) ⟨mm_B.blind, mm_recvL (q := (RX4, TX4, 7)) C hH.1 kl_0 (mm_e4 kd_0) rfl, mm_preL C hH.1 hA⟩ rfl rfl hl.1 rfl (lv_room (Nat.le_of_ble_eq_true rfl)) dL_aged_252 ⟨Nat.zero_le _, Nat.zero_le _⟩) (fun H locs hH => ?_)
                    refine lv_aload_n hx hb dL_aged_255 rfl (lv_at hl 2 rfl) ?_
                    refine lv_iload_n hx hb dL_aged_256 rfl (lv_at hl 0 rfl) ?_
                    obtain ⟨g44, h⟩ := mm_grn h
                    refine md_dld C hH g44 dL_aged_257 ?_
                    refine lv_icmp_ne (tgt := 279) hx hb dL_aged_258 (by decide) (fun c67 => ?_) (fun c67 => ?_)
                    · have h := mm_neg c67 h
                      have hl := lv_sub (l' := []) hl [] rfl
                      cases h
                    · have h := mm_pos c67 h
                      refine lv_aload_n hx hb dL_aged_261 rfl (lv_at hl 1 rfl) ?_
                      refine lv_iload_n hx hb dL_aged_262 rfl (lv_at hl 3 rfl) ?_
                      refine lv_iconst (v := 1) hx hb dL_aged_263 (by decide) ?_
                      obtain ⟨v72, e72, h⟩ := mm_bnd h
                      refine md_goi hH hA (va_runV (As := [.int a2, .int 1]) (rest := []) ⟨hx, hb, C.2.2.1, C.2.2.2.1, C.2.2.2.2.1⟩ (ct_X4_of l G T b z a2 1 x e72) (cwV 2 C.2.2.2.2.1 gL_aged_X4_of rfl rfl rfl df_X4_of ⟨Nat.le_of_ble_eq_true rfl, Nat.le_of_ble_eq_true rfl⟩) ⟨mm_B.blind, mm_recvL (q := (RX4, TX4, 7)) C hH.1 kl_0 (mm_e4 kd_0) rfl, mm_preL C hH.1 hA⟩ rfl rfl hl.1 rfl (lv_room (Nat.le_of_ble_eq_true rfl)) dL_aged_264 ⟨Nat.zero_le _, Nat.zero_le _⟩) (fun H locs hH => ?_)
                      refine lv_aload_n hx hb dL_aged_267 rfl (lv_at hl 2 rfl) ?_
                      refine lv_iload_n hx hb dL_aged_268 rfl (lv_at hl 0 rfl) ?_
                      refine lv_iconst (v := 1) hx hb dL_aged_269 (by decide) ?_
                      refine lv_iadd hx hb dL_aged_270 ?_
                      obtain ⟨g45, h⟩ := mm_grn h
                      refine md_dld C hH g45 dL_aged_271 ?_
                      refine lv_icmp_ne (tgt := 279) hx hb dL_aged_272 (by decide) (fun c68 => ?_) (fun c68 => ?_)
                      · have h := mm_neg c68 h
                        have hl := lv_sub (l' := []) hl [] rfl
                        cases h
                      · have h := mm_pos c68 h
                        have hl := lv_sub (l' := []) hl [] rfl
                        refine lv_iconst (v := 1) hx hb dL_aged_275 (by decide) ?_
                        refine lv_goto (tgt := 280) hx hb dL_aged_276 (by decide) ?_
                        exact mm_iretP C hH.1 hr hlk rfl h dL_aged_280
        · have h := mm_neg c55 h
          refine lv_iload hx hb dL_aged_102 (lv_at hl 0 rfl) ?_
          refine lv_if_eq (tgt := 111) hx hb dL_aged_104 (by decide) (fun c => absurd c (by decide)) (fun _ => ?_)
          have hl := lv_sub (l' := [(5, .int v3), (4, .int 0), (3, .int v1), (0, .ref (b + 0)), (1, .ref ad), (2, .int a2)]) hl [1, 2, 3, 4, 5, 6] rfl
          refine lv_iconst (v := 1) hx hb dL_aged_107 (by decide) ?_
          refine lv_goto (tgt := 112) hx hb dL_aged_108 (by decide) ?_
          refine lv_istore (lv' := [(7, .int 1), (5, .int v3), (4, .int 0), (3, .int v1), (0, .ref (b + 0)), (1, .ref ad), (2, .int a2)]) hx hb dL_aged_112 hl (by decide) rfl (fun ls hl => ?_)
          refine lv_iload hx hb dL_aged_114 (lv_at hl 0 rfl) ?_
          refine lv_if_eq (tgt := 141) hx hb dL_aged_116 (by decide) (fun c => absurd c (by decide)) (fun _ => ?_)
          refine lv_iload hx hb dL_aged_119 (lv_at hl 1 rfl) ?_
          refine lv_aload_n hx hb dL_aged_121 rfl (lv_at hl 4 rfl) ?_
          refine lv_bipush (v := 12) hx hb dL_aged_122 (by decide) ?_
          obtain ⟨v73, e73, h⟩ := mm_bnd h
          refine md_goi hH hA (va_runV (As := [.int 12]) (rest := [.int v3]) ⟨hx, hb, C.2.2.1, C.2.2.2.1, C.2.2.2.2.1⟩ (ct_X4_count l G T b z 12 x e73) (cwV 1 C.2.2.2.2.1 gL_aged_X4_count rfl rfl rfl df_X4_count ⟨Nat.le_of_ble_eq_true rfl, Nat.le_of_ble_eq_true rfl⟩) ⟨mm_B.blind, mm_recvL (q := (RX4, TX4, 7)) C hH.1 kl_0 (mm_e4 kd_0) rfl, mm_preL C hH.1 hA⟩ rfl rfl hl.1 rfl (lv_room (Nat.le_of_ble_eq_true rfl)) dL_aged_124 ⟨Nat.zero_le _, Nat.zero_le _⟩) (fun H locs hH => ?_)
          refine lv_icmp_lt (tgt := 141) hx hb dL_aged_127 (by decide) (fun c69 => ?_) (fun c69 => ?_)
          · have h := mm_pos c69 h
            refine lv_iload hx hb dL_aged_141 (lv_at hl 1 rfl) ?_
            refine lv_istore (lv' := [(5, .int v3), (7, .int 1), (4, .int 0), (3, .int v1), (0, .ref (b + 0)), (1, .ref ad), (2, .int a2)]) hx hb dL_aged_143 hl (by decide) rfl (fun ls hl => ?_)
            refine lv_aload_n hx hb dL_aged_145 rfl (lv_at hl 4 rfl) ?_
            refine lv_iload_n hx hb dL_aged_146 rfl (lv_at hl 6 rfl) ?_
            refine lv_iconst (v := 2) hx hb dL_aged_147 (by decide) ?_
            obtain ⟨v74, e74, h⟩ := mm_bnd h
            refine md_goi hH hA (va_runV (As := [.int a2, .int 2]) (rest := []) ⟨hx, hb, C.2.2.1, C.2.2.2.1, C.2.2.2.2.1⟩ (ct_X4_of l G T b z a2 2 x e74) (cwV 2 C.2.2.2.2.1 gL_aged_X4_of rfl rfl rfl df_X4_of ⟨Nat.le_of_ble_eq_true rfl, Nat.le_of_ble_eq_true rfl⟩) ⟨mm_B.blind, mm_recvL (q := (RX4, TX4, 7)) C hH.1 kl_0 (mm_e4 kd_0) rfl, mm_preL C hH.1 hA⟩ rfl rfl hl.1 rfl (lv_room (Nat.le_of_ble_eq_true rfl)) dL_aged_148 ⟨Nat.zero_le _, Nat.zero_le _⟩) (fun H locs hH => ?_)
            refine lv_iload hx hb dL_aged_151 (lv_at hl 0 rfl) ?_
            refine lv_icmp_ne (tgt := 208) hx hb dL_aged_153 (by decide) (fun c70 => ?_) (fun c70 => ?_)
            · have h := mm_neg c70 h
              have hl := lv_sub (l' := [(7, .int 1), (3, .int v1), (0, .ref (b + 0)), (1, .ref ad), (2, .int a2)]) hl [1, 3, 4, 5, 6] rfl
              cases h
            · have h := mm_pos c70 h
              have hl := lv_sub (l' := [(7, .int 1), (4, .int 0), (3, .int v1), (0, .ref (b + 0)), (1, .ref ad), (2, .int a2)]) hl [1, 2, 3, 4, 5, 6] rfl
              refine lv_aload_n hx hb dL_aged_156 rfl (lv_at hl 3 rfl) ?_
              refine lv_iload_n hx hb dL_aged_157 rfl (lv_at hl 5 rfl) ?_
              refine lv_iconst (v := 5) hx hb dL_aged_158 (by decide) ?_
              obtain ⟨v75, e75, h⟩ := mm_bnd h
              refine md_goi hH hA (va_runV (As := [.int a2, .int 5]) (rest := []) ⟨hx, hb, C.2.2.1, C.2.2.2.1, C.2.2.2.2.1⟩ (ct_X4_of l G T b z a2 5 x e75) (cwV 2 C.2.2.2.2.1 gL_aged_X4_of rfl rfl rfl df_X4_of ⟨Nat.le_of_ble_eq_true rfl, Nat.le_of_ble_eq_true rfl⟩) ⟨mm_B.blind, mm_recvL (q := (RX4, TX4, 7)) C hH.1 kl_0 (mm_e4 kd_0) rfl, mm_preL C hH.1 hA⟩ rfl rfl hl.1 rfl (lv_room (Nat.le_of_ble_eq_true rfl)) dL_aged_159 ⟨Nat.zero_le _, Nat.zero_le _⟩) (fun H locs hH => ?_)
              refine lv_iload hx hb dL_aged_162 (lv_at hl 1 rfl) ?_
              refine lv_if_eq (tgt := 171) hx hb dL_aged_164 (by decide) (fun _ => ?_) (fun c => absurd (by decide) c)
              have hl := lv_sub (l' := [(7, .int 1), (3, .int v1), (0, .ref (b + 0)), (1, .ref ad), (2, .int a2)]) hl [0, 2, 3, 4, 5] rfl
              refine lv_aload_n hx hb dL_aged_171 rfl (lv_at hl 3 rfl) ?_
              refine lv_iload_n hx hb dL_aged_172 rfl (lv_at hl 1 rfl) ?_
              refine lv_iconst (v := 5) hx hb dL_aged_173 (by decide) ?_
              refine lv_iadd hx hb dL_aged_174 ?_
              obtain ⟨g46, h⟩ := mm_grn h
              refine md_dld C hH g46 dL_aged_175 ?_
              refine lv_iconst (v := 1) hx hb dL_aged_176 (by decide) ?_
              refine lv_iadd hx hb dL_aged_177 ?_
              refine lv_icmp_ne (tgt := 208) hx hb dL_aged_178 (by decide) (fun c71 => ?_) (fun c71 => ?_)
              · have h := mm_neg c71 h
                cases h
              · have h := mm_pos c71 h
                refine lv_aload_n hx hb dL_aged_181 rfl (lv_at hl 2 rfl) ?_
                refine lv_iload_n hx hb dL_aged_182 rfl (lv_at hl 4 rfl) ?_
                refine lv_iconst (v := 3) hx hb dL_aged_183 (by decide) ?_
                obtain ⟨v76, e76, h⟩ := mm_bnd h
                refine md_goi hH hA (va_runV (As := [.int a2, .int 3]) (rest := []) ⟨hx, hb, C.2.2.1, C.2.2.2.1, C.2.2.2.2.1⟩ (ct_X4_of l G T b z a2 3 x e76) (cwV 2 C.2.2.2.2.1 gL_aged_X4_of rfl rfl rfl df_X4_of ⟨Nat.le_of_ble_eq_true rfl, Nat.le_of_ble_eq_true rfl⟩) ⟨mm_B.blind, mm_recvL (q := (RX4, TX4, 7)) C hH.1 kl_0 (mm_e4 kd_0) rfl, mm_preL C hH.1 hA⟩ rfl rfl hl.1 rfl (lv_room (Nat.le_of_ble_eq_true rfl)) dL_aged_184 ⟨Nat.zero_le _, Nat.zero_le _⟩) (fun H locs hH => ?_)
                refine lv_iload hx hb dL_aged_187 (lv_at hl 0 rfl) ?_
                refine lv_if_eq (tgt := 196) hx hb dL_aged_189 (by decide) (fun c => absurd c (by decide)) (fun _ => ?_)
                refine lv_iconst (v := 0) hx hb dL_aged_192 (by decide) ?_
                refine lv_goto (tgt := 201) hx hb dL_aged_193 (by decide) ?_
                refine lv_icmp_ne (tgt := 208) hx hb dL_aged_201 (by decide) (fun c72 => ?_) (fun c72 => ?_)
                · have h := mm_neg c72 h
                  cases h
                · have h := mm_pos c72 h
                  refine lv_iconst (v := 1) hx hb dL_aged_204 (by decide) ?_
                  refine lv_goto (tgt := 209) hx hb dL_aged_205 (by decide) ?_
                  refine lv_istore (lv' := [(8, .int 1), (7, .int 1), (3, .int v1), (0, .ref (b + 0)), (1, .ref ad), (2, .int a2)]) hx hb dL_aged_209 hl (by decide) rfl (fun ls hl => ?_)
                  refine lv_iload hx hb dL_aged_211 (lv_at hl 0 rfl) ?_
                  refine lv_if_eq (tgt := 279) hx hb dL_aged_213 (by decide) (fun c => absurd c (by decide)) (fun _ => ?_)
                  have hl := lv_sub (l' := [(7, .int 1), (3, .int v1), (0, .ref (b + 0)), (1, .ref ad), (2, .int a2)]) hl [1, 2, 3, 4, 5] rfl
                  refine lv_aload_n hx hb dL_aged_216 rfl (lv_at hl 2 rfl) ?_
                  refine lv_iload_n hx hb dL_aged_217 rfl (lv_at hl 4 rfl) ?_
                  refine lv_iconst (v := 4) hx hb dL_aged_218 (by decide) ?_
                  obtain ⟨v77, e77, h⟩ := mm_bnd h
                  refine md_goi hH hA (va_runV (As := [.int a2, .int 4]) (rest := []) ⟨hx, hb, C.2.2.1, C.2.2.2.1, C.2.2.2.2.1⟩ (ct_X4_of l G T b z a2 4 x e77) (cwV 2 C.2.2.2.2.1 gL_aged_X4_of rfl rfl rfl df_X4_of ⟨Nat.le_of_ble_eq_true rfl, Nat.le_of_ble_eq_true rfl⟩) ⟨mm_B.blind, mm_recvL (q := (RX4, TX4, 7)) C hH.1 kl_0 (mm_e4 kd_0) rfl, mm_preL C hH.1 hA⟩ rfl rfl hl.1 rfl (lv_room (Nat.le_of_ble_eq_true rfl)) dL_aged_219 ⟨Nat.zero_le _, Nat.zero_le _⟩) (fun H locs hH => ?_)
                  refine lv_iload hx hb dL_aged_222 (lv_at hl 0 rfl) ?_
                  refine lv_if_ne (tgt := 235) hx hb dL_aged_224 (by decide) (fun _ => ?_) (fun c => absurd c (by decide))
                  have hl := lv_sub (l' := [(3, .int v1), (0, .ref (b + 0)), (1, .ref ad), (2, .int a2)]) hl [1, 2, 3, 4] rfl
                  refine lv_iconst (v := 0) hx hb dL_aged_235 (by decide) ?_
                  refine lv_goto (tgt := 246) hx hb dL_aged_236 (by decide) ?_
                  refine lv_icmp_ne (tgt := 279) hx hb dL_aged_246 (by decide) (fun c73 => ?_) (fun c73 => ?_)
                  · have h := mm_neg c73 h
                    have hl := lv_sub (l' := []) hl [] rfl
                    cases h
                  · have h := mm_pos c73 h
                    refine lv_aload_n hx hb dL_aged_249 rfl (lv_at hl 1 rfl) ?_
                    refine lv_iload_n hx hb dL_aged_250 rfl (lv_at hl 3 rfl) ?_
                    refine lv_iconst (v := 0) hx hb dL_aged_251 (by decide) ?_
                    obtain ⟨v78, e78, h⟩ := mm_bnd h
                    refine md_goi hH hA (va_runV (As := [.int a2, .int 0]) (rest := []) ⟨hx, hb, C.2.2.1, C.2.2.2.1, C.2.2.2.2.1⟩ (ct_X4_of l G T b z a2 0 x e78) (cwV 2 C.2.2.2.2.1 gL_aged_X4_of rfl rfl rfl df_X4_of ⟨Nat.le_of_ble_eq_true rfl, Nat.le_of_ble_eq_true rfl⟩) ⟨mm_B.blind, mm_recvL (q := (RX4, TX4, 7)) C hH.1 kl_0 (mm_e4 kd_0) rfl, mm_preL C hH.1 hA⟩ rfl rfl hl.1 rfl (lv_room (Nat.le_of_ble_eq_true rfl)) dL_aged_252 ⟨Nat.zero_le _, Nat.zero_le _⟩) (fun H locs hH => ?_)
                    refine lv_aload_n hx hb dL_aged_255 rfl (lv_at hl 2 rfl) ?_
                    refine lv_iload_n hx hb dL_aged_256 rfl (lv_at hl 0 rfl) ?_
                    obtain ⟨g47, h⟩ := mm_grn h
                    refine md_dld C hH g47 dL_aged_257 ?_
                    refine lv_icmp_ne (tgt := 279) hx hb dL_aged_258 (by decide) (fun c74 => ?_) (fun c74 => ?_)
                    · have h := mm_neg c74 h
                      have hl := lv_sub (l' := []) hl [] rfl
                      cases h
                    · have h := mm_pos c74 h
                      refine lv_aload_n hx hb dL_aged_261 rfl (lv_at hl 1 rfl) ?_
                      refine lv_iload_n hx hb dL_aged_262 rfl (lv_at hl 3 rfl) ?_
                      refine lv_iconst (v := 1) hx hb dL_aged_263 (by decide) ?_
                      obtain ⟨v79, e79, h⟩ := mm_bnd h
                      refine md_goi hH hA (va_runV (As := [.int a2, .int 1]) (rest := []) ⟨hx, hb, C.2.2.1, C.2.2.2.1, C.2.2.2.2.1⟩ (ct_X4_of l G T b z a2 1 x e79) (cwV 2 C.2.2.2.2.1 gL_aged_X4_of rfl rfl rfl df_X4_of ⟨Nat.le_of_ble_eq_true rfl, Nat.le_of_ble_eq_true rfl⟩) ⟨mm_B.blind, mm_recvL (q := (RX4, TX4, 7)) C hH.1 kl_0 (mm_e4 kd_0) rfl, mm_preL C hH.1 hA⟩ rfl rfl hl.1 rfl (lv_room (Nat.le_of_ble_eq_true rfl)) dL_aged_264 ⟨Nat.zero_le _, Nat.zero_le _⟩) (fun H locs hH => ?_)
                      refine lv_aload_n hx hb dL_aged_267 rfl (lv_at hl 2 rfl) ?_
                      refine lv_iload_n hx hb dL_aged_268 rfl (lv_at hl 0 rfl) ?_
                      refine lv_iconst (v := 1) hx hb dL_aged_269 (by decide) ?_
                      refine lv_iadd hx hb dL_aged_270 ?_
                      obtain ⟨g48, h⟩ := mm_grn h
                      refine md_dld C hH g48 dL_aged_271 ?_
                      refine lv_icmp_ne (tgt := 279) hx hb dL_aged_272 (by decide) (fun c75 => ?_) (fun c75 => ?_)
                      · have h := mm_neg c75 h
                        have hl := lv_sub (l' := []) hl [] rfl
                        cases h
                      · have h := mm_pos c75 h
                        have hl := lv_sub (l' := []) hl [] rfl
                        refine lv_iconst (v := 1) hx hb dL_aged_275 (by decide) ?_
                        refine lv_goto (tgt := 280) hx hb dL_aged_276 (by decide) ?_
                        exact mm_iretP C hH.1 hr hlk rfl h dL_aged_280
          · have h := mm_neg c69 h
            have hl := lv_sub (l' := [(7, .int 1), (4, .int 0), (3, .int v1), (0, .ref (b + 0)), (1, .ref ad), (2, .int a2)]) hl [0, 2, 3, 4, 5, 6] rfl
            refine lv_aload_n hx hb dL_aged_130 rfl (lv_at hl 3 rfl) ?_
            refine lv_bipush (v := 12) hx hb dL_aged_131 (by decide) ?_
            obtain ⟨v80, e80, h⟩ := mm_bnd h
            refine md_goi hH hA (va_runV (As := [.int 12]) (rest := []) ⟨hx, hb, C.2.2.1, C.2.2.2.1, C.2.2.2.2.1⟩ (ct_X4_count l G T b z 12 x e80) (cwV 1 C.2.2.2.2.1 gL_aged_X4_count rfl rfl rfl df_X4_count ⟨Nat.le_of_ble_eq_true rfl, Nat.le_of_ble_eq_true rfl⟩) ⟨mm_B.blind, mm_recvL (q := (RX4, TX4, 7)) C hH.1 kl_0 (mm_e4 kd_0) rfl, mm_preL C hH.1 hA⟩ rfl rfl hl.1 rfl (lv_room (Nat.le_of_ble_eq_true rfl)) dL_aged_133 ⟨Nat.zero_le _, Nat.zero_le _⟩) (fun H locs hH => ?_)
            refine lv_iconst (v := 1) hx hb dL_aged_136 (by decide) ?_
            refine lv_isub hx hb dL_aged_137 ?_
            refine lv_goto (tgt := 143) hx hb dL_aged_138 (by decide) ?_
            obtain ⟨v81, e81, h⟩ := mm_bnd h
            refine mm_nmi e81 ?_
            refine lv_istore (lv' := [(5, .int v81), (7, .int 1), (4, .int 0), (3, .int v1), (0, .ref (b + 0)), (1, .ref ad), (2, .int a2)]) hx hb dL_aged_143 hl (by decide) rfl (fun ls hl => ?_)
            refine lv_aload_n hx hb dL_aged_145 rfl (lv_at hl 4 rfl) ?_
            refine lv_iload_n hx hb dL_aged_146 rfl (lv_at hl 6 rfl) ?_
            refine lv_iconst (v := 2) hx hb dL_aged_147 (by decide) ?_
            obtain ⟨v82, e82, h⟩ := mm_bnd h
            refine md_goi hH hA (va_runV (As := [.int a2, .int 2]) (rest := []) ⟨hx, hb, C.2.2.1, C.2.2.2.1, C.2.2.2.2.1⟩ (ct_X4_of l G T b z a2 2 x e82) (cwV 2 C.2.2.2.2.1 gL_aged_X4_of rfl rfl rfl df_X4_of ⟨Nat.le_of_ble_eq_true rfl, Nat.le_of_ble_eq_true rfl⟩) ⟨mm_B.blind, mm_recvL (q := (RX4, TX4, 7)) C hH.1 kl_0 (mm_e4 kd_0) rfl, mm_preL C hH.1 hA⟩ rfl rfl hl.1 rfl (lv_room (Nat.le_of_ble_eq_true rfl)) dL_aged_148 ⟨Nat.zero_le _, Nat.zero_le _⟩) (fun H locs hH => ?_)
            refine lv_iload hx hb dL_aged_151 (lv_at hl 0 rfl) ?_
            refine lv_icmp_ne (tgt := 208) hx hb dL_aged_153 (by decide) (fun c76 => ?_) (fun c76 => ?_)
            · have h := mm_neg c76 h
              have hl := lv_sub (l' := [(7, .int 1), (3, .int v1), (0, .ref (b + 0)), (1, .ref ad), (2, .int a2)]) hl [1, 3, 4, 5, 6] rfl
              cases h
            · have h := mm_pos c76 h
              have hl := lv_sub (l' := [(7, .int 1), (4, .int 0), (3, .int v1), (0, .ref (b + 0)), (1, .ref ad), (2, .int a2)]) hl [1, 2, 3, 4, 5, 6] rfl
              refine lv_aload_n hx hb dL_aged_156 rfl (lv_at hl 3 rfl) ?_
              refine lv_iload_n hx hb dL_aged_157 rfl (lv_at hl 5 rfl) ?_
              refine lv_iconst (v := 5) hx hb dL_aged_158 (by decide) ?_
              obtain ⟨v83, e83, h⟩ := mm_bnd h
              refine md_goi hH hA (va_runV (As := [.int a2, .int 5]) (rest := []) ⟨hx, hb, C.2.2.1, C.2.2.2.1, C.2.2.2.2.1⟩ (ct_X4_of l G T b z a2 5 x e83) (cwV 2 C.2.2.2.2.1 gL_aged_X4_of rfl rfl rfl df_X4_of ⟨Nat.le_of_ble_eq_true rfl, Nat.le_of_ble_eq_true rfl⟩) ⟨mm_B.blind, mm_recvL (q := (RX4, TX4, 7)) C hH.1 kl_0 (mm_e4 kd_0) rfl, mm_preL C hH.1 hA⟩ rfl rfl hl.1 rfl (lv_room (Nat.le_of_ble_eq_true rfl)) dL_aged_159 ⟨Nat.zero_le _, Nat.zero_le _⟩) (fun H locs hH => ?_)
              refine lv_iload hx hb dL_aged_162 (lv_at hl 1 rfl) ?_
              refine lv_if_eq (tgt := 171) hx hb dL_aged_164 (by decide) (fun _ => ?_) (fun c => absurd (by decide) c)
              have hl := lv_sub (l' := [(7, .int 1), (3, .int v1), (0, .ref (b + 0)), (1, .ref ad), (2, .int a2)]) hl [0, 2, 3, 4, 5] rfl
              refine lv_aload_n hx hb dL_aged_171 rfl (lv_at hl 3 rfl) ?_
              refine lv_iload_n hx hb dL_aged_172 rfl (lv_at hl 1 rfl) ?_
              refine lv_iconst (v := 5) hx hb dL_aged_173 (by decide) ?_
              refine lv_iadd hx hb dL_aged_174 ?_
              obtain ⟨g49, h⟩ := mm_grn h
              refine md_dld C hH g49 dL_aged_175 ?_
              refine lv_iconst (v := 1) hx hb dL_aged_176 (by decide) ?_
              refine lv_iadd hx hb dL_aged_177 ?_
              refine lv_icmp_ne (tgt := 208) hx hb dL_aged_178 (by decide) (fun c77 => ?_) (fun c77 => ?_)
              · have h := mm_neg c77 h
                cases h
              · have h := mm_pos c77 h
                refine lv_aload_n hx hb dL_aged_181 rfl (lv_at hl 2 rfl) ?_
                refine lv_iload_n hx hb dL_aged_182 rfl (lv_at hl 4 rfl) ?_
                refine lv_iconst (v := 3) hx hb dL_aged_183 (by decide) ?_
                obtain ⟨v84, e84, h⟩ := mm_bnd h
                refine md_goi hH hA (va_runV (As := [.int a2, .int 3]) (rest := []) ⟨hx, hb, C.2.2.1, C.2.2.2.1, C.2.2.2.2.1⟩ (ct_X4_of l G T b z a2 3 x e84) (cwV 2 C.2.2.2.2.1 gL_aged_X4_of rfl rfl rfl df_X4_of ⟨Nat.le_of_ble_eq_true rfl, Nat.le_of_ble_eq_true rfl⟩) ⟨mm_B.blind, mm_recvL (q := (RX4, TX4, 7)) C hH.1 kl_0 (mm_e4 kd_0) rfl, mm_preL C hH.1 hA⟩ rfl rfl hl.1 rfl (lv_room (Nat.le_of_ble_eq_true rfl)) dL_aged_184 ⟨Nat.zero_le _, Nat.zero_le _⟩) (fun H locs hH => ?_)
                refine lv_iload hx hb dL_aged_187 (lv_at hl 0 rfl) ?_
                refine lv_if_eq (tgt := 196) hx hb dL_aged_189 (by decide) (fun c => absurd c (by decide)) (fun _ => ?_)
                refine lv_iconst (v := 0) hx hb dL_aged_192 (by decide) ?_
                refine lv_goto (tgt := 201) hx hb dL_aged_193 (by decide) ?_
                refine lv_icmp_ne (tgt := 208) hx hb dL_aged_201 (by decide) (fun c78 => ?_) (fun c78 => ?_)
                · have h := mm_neg c78 h
                  cases h
                · have h := mm_pos c78 h
                  refine lv_iconst (v := 1) hx hb dL_aged_204 (by decide) ?_
                  refine lv_goto (tgt := 209) hx hb dL_aged_205 (by decide) ?_
                  refine lv_istore (lv' := [(8, .int 1), (7, .int 1), (3, .int v1), (0, .ref (b + 0)), (1, .ref ad), (2, .int a2)]) hx hb dL_aged_209 hl (by decide) rfl (fun ls hl => ?_)
                  refine lv_iload hx hb dL_aged_211 (lv_at hl 0 rfl) ?_
                  refine lv_if_eq (tgt := 279) hx hb dL_aged_213 (by decide) (fun c => absurd c (by decide)) (fun _ => ?_)
                  have hl := lv_sub (l' := [(7, .int 1), (3, .int v1), (0, .ref (b + 0)), (1, .ref ad), (2, .int a2)]) hl [1, 2, 3, 4, 5] rfl
                  refine lv_aload_n hx hb dL_aged_216 rfl (lv_at hl 2 rfl) ?_
                  refine lv_iload_n hx hb dL_aged_217 rfl (lv_at hl 4 rfl) ?_
                  refine lv_iconst (v := 4) hx hb dL_aged_218 (by decide) ?_
                  obtain ⟨v85, e85, h⟩ := mm_bnd h
                  refine md_goi hH hA (va_runV (As := [.int a2, .int 4]) (rest := []) ⟨hx, hb, C.2.2.1, C.2.2.2.1, C.2.2.2.2.1⟩ (ct_X4_of l G T b z a2 4 x e85) (cwV 2 C.2.2.2.2.1 gL_aged_X4_of rfl rfl rfl df_X4_of ⟨Nat.le_of_ble_eq_true rfl, Nat.le_of_ble_eq_true rfl⟩) ⟨mm_B.blind, mm_recvL (q := (RX4, TX4, 7)) C hH.1 kl_0 (mm_e4 kd_0) rfl, mm_preL C hH.1 hA⟩ rfl rfl hl.1 rfl (lv_room (Nat.le_of_ble_eq_true rfl)) dL_aged_219 ⟨Nat.zero_le _, Nat.zero_le _⟩) (fun H locs hH => ?_)
                  refine lv_iload hx hb dL_aged_222 (lv_at hl 0 rfl) ?_
                  refine lv_if_ne (tgt := 235) hx hb dL_aged_224 (by decide) (fun _ => ?_) (fun c => absurd c (by decide))
                  have hl := lv_sub (l' := [(3, .int v1), (0, .ref (b + 0)), (1, .ref ad), (2, .int a2)]) hl [1, 2, 3, 4] rfl
                  refine lv_iconst (v := 0) hx hb dL_aged_235 (by decide) ?_
                  refine lv_goto (tgt := 246) hx hb dL_aged_236 (by decide) ?_
                  refine lv_icmp_ne (tgt := 279) hx hb dL_aged_246 (by decide) (fun c79 => ?_) (fun c79 => ?_)
                  · have h := mm_neg c79 h
                    have hl := lv_sub (l' := []) hl [] rfl
                    cases h
                  · have h := mm_pos c79 h
                    refine lv_aload_n hx hb dL_aged_249 rfl (lv_at hl 1 rfl) ?_
                    refine lv_iload_n hx hb dL_aged_250 rfl (lv_at hl 3 rfl) ?_
                    refine lv_iconst (v := 0) hx hb dL_aged_251 (by decide) ?_
                    obtain ⟨v86, e86, h⟩ := mm_bnd h
                    refine md_goi hH hA (va_runV (As := [.int a2, .int 0]) (rest := []) ⟨hx, hb, C.2.2.1, C.2.2.2.1, C.2.2.2.2.1⟩ (ct_X4_of l G T b z a2 0 x e86) (cwV 2 C.2.2.2.2.1 gL_aged_X4_of rfl rfl rfl df_X4_of ⟨Nat.le_of_ble_eq_true rfl, Nat.le_of_ble_eq_true rfl⟩) ⟨mm_B.blind, mm_recvL (q := (RX4, TX4, 7)) C hH.1 kl_0 (mm_e4 kd_0) rfl, mm_preL C hH.1 hA⟩ rfl rfl hl.1 rfl (lv_room (Nat.le_of_ble_eq_true rfl)) dL_aged_252 ⟨Nat.zero_le _, Nat.zero_le _⟩) (fun H locs hH => ?_)
                    refine lv_aload_n hx hb dL_aged_255 rfl (lv_at hl 2 rfl) ?_
                    refine lv_iload_n hx hb dL_aged_256 rfl (lv_at hl 0 rfl) ?_
                    obtain ⟨g50, h⟩ := mm_grn h
                    refine md_dld C hH g50 dL_aged_257 ?_
                    refine lv_icmp_ne (tgt := 279) hx hb dL_aged_258 (by decide) (fun c80 => ?_) (fun c80 => ?_)
                    · have h := mm_neg c80 h
                      have hl := lv_sub (l' := []) hl [] rfl
                      cases h
                    · have h := mm_pos c80 h
                      refine lv_aload_n hx hb dL_aged_261 rfl (lv_at hl 1 rfl) ?_
                      refine lv_iload_n hx hb dL_aged_262 rfl (lv_at hl 3 rfl) ?_
                      refine lv_iconst (v := 1) hx hb dL_aged_263 (by decide) ?_
                      obtain ⟨v87, e87, h⟩ := mm_bnd h
                      refine md_goi hH hA (va_runV (As := [.int a2, .int 1]) (rest := []) ⟨hx, hb, C.2.2.1, C.2.2.2.1, C.2.2.2.2.1⟩ (ct_X4_of l G T b z a2 1 x e87) (cwV 2 C.2.2.2.2.1 gL_aged_X4_of rfl rfl rfl df_X4_of ⟨Nat.le_of_ble_eq_true rfl, Nat.le_of_ble_eq_true rfl⟩) ⟨mm_B.blind, mm_recvL (q := (RX4, TX4, 7)) C hH.1 kl_0 (mm_e4 kd_0) rfl, mm_preL C hH.1 hA⟩ rfl rfl hl.1 rfl (lv_room (Nat.le_of_ble_eq_true rfl)) dL_aged_264 ⟨Nat.zero_le _, Nat.zero_le _⟩) (fun H locs hH => ?_)
                      refine lv_aload_n hx hb dL_aged_267 rfl (lv_at hl 2 rfl) ?_
                      refine lv_iload_n hx hb dL_aged_268 rfl (lv_at hl 0 rfl) ?_
                      refine lv_iconst (v := 1) hx hb dL_aged_269 (by decide) ?_
                      refine lv_iadd hx hb dL_aged_270 ?_
                      obtain ⟨g51, h⟩ := mm_grn h
                      refine md_dld C hH g51 dL_aged_271 ?_
                      refine lv_icmp_ne (tgt := 279) hx hb dL_aged_272 (by decide) (fun c81 => ?_) (fun c81 => ?_)
                      · have h := mm_neg c81 h
                        have hl := lv_sub (l' := []) hl [] rfl
                        cases h
                      · have h := mm_pos c81 h
                        have hl := lv_sub (l' := []) hl [] rfl
                        refine lv_iconst (v := 1) hx hb dL_aged_275 (by decide) ?_
                        refine lv_goto (tgt := 280) hx hb dL_aged_276 (by decide) ?_
                        exact mm_iretP C hH.1 hr hlk rfl h dL_aged_280
  · have h := mm_neg c1 h
    refine lv_iconst (v := 1) hx hb dL_aged_21 (by decide) ?_
    refine lv_goto (tgt := 26) hx hb dL_aged_22 (by decide) ?_
    refine lv_istore (lv' := [(4, .int 1), (3, .int v1), (0, .ref (b + 0)), (1, .ref ad), (2, .int a2)]) hx hb dL_aged_26 hl (by decide) rfl (fun ls hl => ?_)
    refine lv_iload hx hb dL_aged_28 (lv_at hl 0 rfl) ?_
    refine lv_if_eq (tgt := 43) hx hb dL_aged_30 (by decide) (fun c => absurd c (by decide)) (fun _ => ?_)
    refine lv_aload_n hx hb dL_aged_33 rfl (lv_at hl 3 rfl) ?_
    refine lv_iload_n hx hb dL_aged_34 rfl (lv_at hl 1 rfl) ?_
    refine lv_iconst (v := 2) hx hb dL_aged_35 (by decide) ?_
    refine lv_iadd hx hb dL_aged_36 ?_
    obtain ⟨g52, h⟩ := mm_grn h
    refine md_dld C hH g52 dL_aged_37 ?_
    refine lv_iconst (v := 2) hx hb dL_aged_38 (by decide) ?_
    refine lv_idiv hx hb dL_aged_39 (by decide) ?_
    refine lv_goto (tgt := 48) hx hb dL_aged_40 (by decide) ?_
    obtain ⟨v88, e88, h⟩ := mm_bnd h
    refine mm_nmi e88 ?_
    refine lv_istore (lv' := [(5, .int v88), (4, .int 1), (3, .int v1), (0, .ref (b + 0)), (1, .ref ad), (2, .int a2)]) hx hb dL_aged_48 hl (by decide) rfl (fun ls hl => ?_)
    refine lv_aload_n hx hb dL_aged_50 rfl (lv_at hl 4 rfl) ?_
    refine lv_iload_n hx hb dL_aged_51 rfl (lv_at hl 2 rfl) ?_
    refine lv_iconst (v := 3) hx hb dL_aged_52 (by decide) ?_
    refine lv_iadd hx hb dL_aged_53 ?_
    obtain ⟨g53, h⟩ := mm_grn h
    refine md_dld C hH g53 dL_aged_54 ?_
    refine lv_iconst (v := 1) hx hb dL_aged_55 (by decide) ?_
    refine lv_icmp_ne (tgt := 79) hx hb dL_aged_56 (by decide) (fun c82 => ?_) (fun c82 => ?_)
    · have h := mm_neg c82 h
      refine lv_iconst (v := 0) hx hb dL_aged_79 (by decide) ?_
      refine lv_istore (lv' := [(6, .int 0), (5, .int v88), (4, .int 1), (3, .int v1), (0, .ref (b + 0)), (1, .ref ad), (2, .int a2)]) hx hb dL_aged_80 hl (by decide) rfl (fun ls hl => ?_)
      refine lv_aload_n hx hb dL_aged_82 rfl (lv_at hl 5 rfl) ?_
      refine lv_iload_n hx hb dL_aged_83 rfl (lv_at hl 3 rfl) ?_
      refine lv_iconst (v := 3) hx hb dL_aged_84 (by decide) ?_
      refine lv_iadd hx hb dL_aged_85 ?_
      obtain ⟨g54, h⟩ := mm_grn h
      refine md_dld C hH g54 dL_aged_86 ?_
      refine lv_iconst (v := 1) hx hb dL_aged_87 (by decide) ?_
      refine lv_icmp_ne (tgt := 111) hx hb dL_aged_88 (by decide) (fun c83 => ?_) (fun c83 => ?_)
      · have h := mm_neg c83 h
        have hl := lv_sub (l' := [(5, .int v88), (4, .int 1), (3, .int v1), (0, .ref (b + 0)), (1, .ref ad), (2, .int a2)]) hl [1, 2, 3, 4, 5, 6] rfl
        refine lv_iconst (v := 0) hx hb dL_aged_111 (by decide) ?_
        refine lv_istore (lv' := [(7, .int 0), (5, .int v88), (4, .int 1), (3, .int v1), (0, .ref (b + 0)), (1, .ref ad), (2, .int a2)]) hx hb dL_aged_112 hl (by decide) rfl (fun ls hl => ?_)
        refine lv_iload hx hb dL_aged_114 (lv_at hl 0 rfl) ?_
        refine lv_if_eq (tgt := 141) hx hb dL_aged_116 (by decide) (fun _ => ?_) (fun c => absurd (by decide) c)
        refine lv_iload hx hb dL_aged_141 (lv_at hl 1 rfl) ?_
        refine lv_istore (lv' := [(5, .int v88), (7, .int 0), (4, .int 1), (3, .int v1), (0, .ref (b + 0)), (1, .ref ad), (2, .int a2)]) hx hb dL_aged_143 hl (by decide) rfl (fun ls hl => ?_)
        refine lv_aload_n hx hb dL_aged_145 rfl (lv_at hl 4 rfl) ?_
        refine lv_iload_n hx hb dL_aged_146 rfl (lv_at hl 6 rfl) ?_
        refine lv_iconst (v := 2) hx hb dL_aged_147 (by decide) ?_
        obtain ⟨v89, e89, h⟩ := mm_bnd h
        refine md_goi hH hA (va_runV (As := [.int a2, .int 2]) (rest := []) ⟨hx, hb, C.2.2.1, C.2.2.2.1, C.2.2.2.2.1⟩ (ct_X4_of l G T b z a2 2 x e89) (cwV 2 C.2.2.2.2.1 gL_aged_X4_of rfl rfl rfl df_X4_of ⟨Nat.le_of_ble_eq_true rfl, Nat.le_of_ble_eq_true rfl⟩) ⟨mm_B.blind, mm_recvL (q := (RX4, TX4, 7)) C hH.1 kl_0 (mm_e4 kd_0) rfl, mm_preL C hH.1 hA⟩ rfl rfl hl.1 rfl (lv_room (Nat.le_of_ble_eq_true rfl)) dL_aged_148 ⟨Nat.zero_le _, Nat.zero_le _⟩) (fun H locs hH => ?_)
        refine lv_iload hx hb dL_aged_151 (lv_at hl 0 rfl) ?_
        refine lv_icmp_ne (tgt := 208) hx hb dL_aged_153 (by decide) (fun c84 => ?_) (fun c84 => ?_)
        · have h := mm_neg c84 h
          have hl := lv_sub (l' := [(7, .int 0), (3, .int v1), (0, .ref (b + 0)), (1, .ref ad), (2, .int a2)]) hl [1, 3, 4, 5, 6] rfl
          cases h
        · have h := mm_pos c84 h
          have hl := lv_sub (l' := [(7, .int 0), (4, .int 1), (3, .int v1), (0, .ref (b + 0)), (1, .ref ad), (2, .int a2)]) hl [1, 2, 3, 4, 5, 6] rfl
          refine lv_aload_n hx hb dL_aged_156 rfl (lv_at hl 3 rfl) ?_
          refine lv_iload_n hx hb dL_aged_157 rfl (lv_at hl 5 rfl) ?_
          refine lv_iconst (v := 5) hx hb dL_aged_158 (by decide) ?_
          obtain ⟨v90, e90, h⟩ := mm_bnd h
          refine md_goi hH hA (va_runV (As := [.int a2, .int 5]) (rest := []) ⟨hx, hb, C.2.2.1, C.2.2.2.1, C.2.2.2.2.1⟩ (ct_X4_of l G T b z a2 5 x e90) (cwV 2 C.2.2.2.2.1 gL_aged_X4_of rfl rfl rfl df_X4_of ⟨Nat.le_of_ble_eq_true rfl, Nat.le_of_ble_eq_true rfl⟩) ⟨mm_B.blind, mm_recvL (q := (RX4, TX4, 7)) C hH.1 kl_0 (mm_e4 kd_0) rfl, mm_preL C hH.1 hA⟩ rfl rfl hl.1 rfl (lv_room (Nat.le_of_ble_eq_true rfl)) dL_aged_159 ⟨Nat.zero_le _, Nat.zero_le _⟩) (fun H locs hH => ?_)
          refine lv_iload hx hb dL_aged_162 (lv_at hl 1 rfl) ?_
          refine lv_if_eq (tgt := 171) hx hb dL_aged_164 (by decide) (fun c => absurd c (by decide)) (fun _ => ?_)
          have hl := lv_sub (l' := [(7, .int 0), (3, .int v1), (0, .ref (b + 0)), (1, .ref ad), (2, .int a2)]) hl [0, 2, 3, 4, 5] rfl
          refine lv_iconst (v := 0) hx hb dL_aged_167 (by decide) ?_
          refine lv_goto (tgt := 178) hx hb dL_aged_168 (by decide) ?_
          refine lv_icmp_ne (tgt := 208) hx hb dL_aged_178 (by decide) (fun c85 => ?_) (fun c85 => ?_)
          · have h := mm_neg c85 h
            cases h
          · have h := mm_pos c85 h
            refine lv_aload_n hx hb dL_aged_181 rfl (lv_at hl 2 rfl) ?_
            refine lv_iload_n hx hb dL_aged_182 rfl (lv_at hl 4 rfl) ?_
            refine lv_iconst (v := 3) hx hb dL_aged_183 (by decide) ?_
            obtain ⟨v91, e91, h⟩ := mm_bnd h
            refine md_goi hH hA (va_runV (As := [.int a2, .int 3]) (rest := []) ⟨hx, hb, C.2.2.1, C.2.2.2.1, C.2.2.2.2.1⟩ (ct_X4_of l G T b z a2 3 x e91) (cwV 2 C.2.2.2.2.1 gL_aged_X4_of rfl rfl rfl df_X4_of ⟨Nat.le_of_ble_eq_true rfl, Nat.le_of_ble_eq_true rfl⟩) ⟨mm_B.blind, mm_recvL (q := (RX4, TX4, 7)) C hH.1 kl_0 (mm_e4 kd_0) rfl, mm_preL C hH.1 hA⟩ rfl rfl hl.1 rfl (lv_room (Nat.le_of_ble_eq_true rfl)) dL_aged_184 ⟨Nat.zero_le _, Nat.zero_le _⟩) (fun H locs hH => ?_)
            refine lv_iload hx hb dL_aged_187 (lv_at hl 0 rfl) ?_
            refine lv_if_eq (tgt := 196) hx hb dL_aged_189 (by decide) (fun _ => ?_) (fun c => absurd (by decide) c)
            refine lv_aload_n hx hb dL_aged_196 rfl (lv_at hl 3 rfl) ?_
            refine lv_iload_n hx hb dL_aged_197 rfl (lv_at hl 1 rfl) ?_
            refine lv_iconst (v := 3) hx hb dL_aged_198 (by decide) ?_
            refine lv_iadd hx hb dL_aged_199 ?_
            obtain ⟨g55, h⟩ := mm_grn h
            refine md_dld C hH g55 dL_aged_200 ?_
            refine lv_icmp_ne (tgt := 208) hx hb dL_aged_201 (by decide) (fun c86 => ?_) (fun c86 => ?_)
            · have h := mm_neg c86 h
              cases h
            · have h := mm_pos c86 h
              refine lv_iconst (v := 1) hx hb dL_aged_204 (by decide) ?_
              refine lv_goto (tgt := 209) hx hb dL_aged_205 (by decide) ?_
              refine lv_istore (lv' := [(8, .int 1), (7, .int 0), (3, .int v1), (0, .ref (b + 0)), (1, .ref ad), (2, .int a2)]) hx hb dL_aged_209 hl (by decide) rfl (fun ls hl => ?_)
              refine lv_iload hx hb dL_aged_211 (lv_at hl 0 rfl) ?_
              refine lv_if_eq (tgt := 279) hx hb dL_aged_213 (by decide) (fun c => absurd c (by decide)) (fun _ => ?_)
              have hl := lv_sub (l' := [(7, .int 0), (3, .int v1), (0, .ref (b + 0)), (1, .ref ad), (2, .int a2)]) hl [1, 2, 3, 4, 5] rfl
              refine lv_aload_n hx hb dL_aged_216 rfl (lv_at hl 2 rfl) ?_
              refine lv_iload_n hx hb dL_aged_217 rfl (lv_at hl 4 rfl) ?_
              refine lv_iconst (v := 4) hx hb dL_aged_218 (by decide) ?_
              obtain ⟨v92, e92, h⟩ := mm_bnd h
              refine md_goi hH hA (va_runV (As := [.int a2, .int 4]) (rest := []) ⟨hx, hb, C.2.2.1, C.2.2.2.1, C.2.2.2.2.1⟩ (ct_X4_of l G T b z a2 4 x e92) (cwV 2 C.2.2.2.2.1 gL_aged_X4_of rfl rfl rfl df_X4_of ⟨Nat.le_of_ble_eq_true rfl, Nat.le_of_ble_eq_true rfl⟩) ⟨mm_B.blind, mm_recvL (q := (RX4, TX4, 7)) C hH.1 kl_0 (mm_e4 kd_0) rfl, mm_preL C hH.1 hA⟩ rfl rfl hl.1 rfl (lv_room (Nat.le_of_ble_eq_true rfl)) dL_aged_219 ⟨Nat.zero_le _, Nat.zero_le _⟩) (fun H locs hH => ?_)
              refine lv_iload hx hb dL_aged_222 (lv_at hl 0 rfl) ?_
              refine lv_if_ne (tgt := 235) hx hb dL_aged_224 (by decide) (fun c => absurd (by decide) c) (fun _ => ?_)
              have hl := lv_sub (l' := [(3, .int v1), (0, .ref (b + 0)), (1, .ref ad), (2, .int a2)]) hl [1, 2, 3, 4] rfl
              refine lv_aload_n hx hb dL_aged_227 rfl (lv_at hl 2 rfl) ?_
              refine lv_iload_n hx hb dL_aged_228 rfl (lv_at hl 0 rfl) ?_
              refine lv_iconst (v := 3) hx hb dL_aged_229 (by decide) ?_
              refine lv_iadd hx hb dL_aged_230 ?_
              obtain ⟨g56, h⟩ := mm_grn h
              refine md_dld C hH g56 dL_aged_231 ?_
              refine lv_if_ne (tgt := 239) hx hb dL_aged_232 (by decide) (fun c87 => ?_) (fun c87 => ?_)
              · have h := mm_neg c87 h
                refine lv_aload_n hx hb dL_aged_239 rfl (lv_at hl 2 rfl) ?_
                refine lv_iload_n hx hb dL_aged_240 rfl (lv_at hl 0 rfl) ?_
                refine lv_iconst (v := 4) hx hb dL_aged_241 (by decide) ?_
                refine lv_iadd hx hb dL_aged_242 ?_
                obtain ⟨g57, h⟩ := mm_grn h
                refine md_dld C hH g57 dL_aged_243 ?_
                refine lv_iconst (v := 1) hx hb dL_aged_244 (by decide) ?_
                refine lv_iadd hx hb dL_aged_245 ?_
                refine lv_icmp_ne (tgt := 279) hx hb dL_aged_246 (by decide) (fun c88 => ?_) (fun c88 => ?_)
                · have h := mm_neg c88 h
                  have hl := lv_sub (l' := []) hl [] rfl
                  cases h
                · have h := mm_pos c88 h
                  refine lv_aload_n hx hb dL_aged_249 rfl (lv_at hl 1 rfl) ?_
                  refine lv_iload_n hx hb dL_aged_250 rfl (lv_at hl 3 rfl) ?_
                  refine lv_iconst (v := 0) hx hb dL_aged_251 (by decide) ?_
                  obtain ⟨v93, e93, h⟩ := mm_bnd h
                  refine md_goi hH hA (va_runV (As := [.int a2, .int 0]) (rest := []) ⟨hx, hb, C.2.2.1, C.2.2.2.1, C.2.2.2.2.1⟩ (ct_X4_of l G T b z a2 0 x e93) (cwV 2 C.2.2.2.2.1 gL_aged_X4_of rfl rfl rfl df_X4_of ⟨Nat.le_of_ble_eq_true rfl, Nat.le_of_ble_eq_true rfl⟩) ⟨mm_B.blind, mm_recvL (q := (RX4, TX4, 7)) C hH.1 kl_0 (mm_e4 kd_0) rfl, mm_preL C hH.1 hA⟩ rfl rfl hl.1 rfl (lv_room (Nat.le_of_ble_eq_true rfl)) dL_aged_252 ⟨Nat.zero_le _, Nat.zero_le _⟩) (fun H locs hH => ?_)
                  refine lv_aload_n hx hb dL_aged_255 rfl (lv_at hl 2 rfl) ?_
                  refine lv_iload_n hx hb dL_aged_256 rfl (lv_at hl 0 rfl) ?_
                  obtain ⟨g58, h⟩ := mm_grn h
                  refine md_dld C hH g58 dL_aged_257 ?_
                  refine lv_icmp_ne (tgt := 279) hx hb dL_aged_258 (by decide) (fun c89 => ?_) (fun c89 => ?_)
                  · have h := mm_neg c89 h
                    have hl := lv_sub (l' := []) hl [] rfl
                    cases h
                  · have h := mm_pos c89 h
                    refine lv_aload_n hx hb dL_aged_261 rfl (lv_at hl 1 rfl) ?_
                    refine lv_iload_n hx hb dL_aged_262 rfl (lv_at hl 3 rfl) ?_
                    refine lv_iconst (v := 1) hx hb dL_aged_263 (by decide) ?_
                    obtain ⟨v94, e94, h⟩ := mm_bnd h
                    refine md_goi hH hA (va_runV (As := [.int a2, .int 1]) (rest := []) ⟨hx, hb, C.2.2.1, C.2.2.2.1, C.2.2.2.2.1⟩ (ct_X4_of l G T b z a2 1 x e94) (cwV 2 C.2.2.2.2.1 gL_aged_X4_of rfl rfl rfl df_X4_of ⟨Nat.le_of_ble_eq_true rfl, Nat.le_of_ble_eq_true rfl⟩) ⟨mm_B.blind, mm_recvL (q := (RX4, TX4, 7)) C hH.1 kl_0 (mm_e4 kd_0) rfl, mm_preL C hH.1 hA⟩ rfl rfl hl.1 rfl (lv_room (Nat.le_of_ble_eq_true rfl)) dL_aged_264 ⟨Nat.zero_le _, Nat.zero_le _⟩) (fun H locs hH => ?_)
                    refine lv_aload_n hx hb dL_aged_267 rfl (lv_at hl 2 rfl) ?_
                    refine lv_iload_n hx hb dL_aged_268 rfl (lv_at hl 0 rfl) ?_
                    refine lv_iconst (v := 1) hx hb dL_aged_269 (by decide) ?_
                    refine lv_iadd hx hb dL_aged_270 ?_
                    obtain ⟨g59, h⟩ := mm_grn h
                    refine md_dld C hH g59 dL_aged_271 ?_
                    refine lv_icmp_ne (tgt := 279) hx hb dL_aged_272 (by decide) (fun c90 => ?_) (fun c90 => ?_)
                    · have h := mm_neg c90 h
                      have hl := lv_sub (l' := []) hl [] rfl
                      cases h
                    · have h := mm_pos c90 h
                      have hl := lv_sub (l' := []) hl [] rfl
                      refine lv_iconst (v := 1) hx hb dL_aged_275 (by decide) ?_
                      refine lv_goto (tgt := 280) hx hb dL_aged_276 (by decide) ?_
                      exact mm_iretP C hH.1 hr hlk rfl h dL_aged_280
              · have h := mm_pos c87 h
                refine lv_iconst (v := 0) hx hb dL_aged_235 (by decide) ?_
                refine lv_goto (tgt := 246) hx hb dL_aged_236 (by decide) ?_
                refine lv_icmp_ne (tgt := 279) hx hb dL_aged_246 (by decide) (fun c91 => ?_) (fun c91 => ?_)
                · have h := mm_neg c91 h
                  have hl := lv_sub (l' := []) hl [] rfl
                  cases h
                · have h := mm_pos c91 h
                  refine lv_aload_n hx hb dL_aged_249 rfl (lv_at hl 1 rfl) ?_
                  refine lv_iload_n hx hb dL_aged_250 rfl (lv_at hl 3 rfl) ?_
                  refine lv_iconst (v := 0) hx hb dL_aged_251 (by decide) ?_
                  obtain ⟨v95, e95, h⟩ := mm_bnd h
                  refine md_goi hH hA (va_runV (As := [.int a2, .int 0]) (rest := []) ⟨hx, hb, C.2.2.1, C.2.2.2.1, C.2.2.2.2.1⟩ (ct_X4_of l G T b z a2 0 x e95) (cwV 2 C.2.2.2.2.1 gL_aged_X4_of rfl rfl rfl df_X4_of ⟨Nat.le_of_ble_eq_true rfl, Nat.le_of_ble_eq_true rfl⟩) ⟨mm_B.blind, mm_recvL (q := (RX4, TX4, 7)) C hH.1 kl_0 (mm_e4 kd_0) rfl, mm_preL C hH.1 hA⟩ rfl rfl hl.1 rfl (lv_room (Nat.le_of_ble_eq_true rfl)) dL_aged_252 ⟨Nat.zero_le _, Nat.zero_le _⟩) (fun H locs hH => ?_)
                  refine lv_aload_n hx hb dL_aged_255 rfl (lv_at hl 2 rfl) ?_
                  refine lv_iload_n hx hb dL_aged_256 rfl (lv_at hl 0 rfl) ?_
                  obtain ⟨g60, h⟩ := mm_grn h
                  refine md_dld C hH g60 dL_aged_257 ?_
                  refine lv_icmp_ne (tgt := 279) hx hb dL_aged_258 (by decide) (fun c92 => ?_) (fun c92 => ?_)
                  · have h := mm_neg c92 h
                    have hl := lv_sub (l' := []) hl [] rfl
                    cases h
                  · have h := mm_pos c92 h
                    refine lv_aload_n hx hb dL_aged_261 rfl (lv_at hl 1 rfl) ?_
                    refine lv_iload_n hx hb dL_aged_262 rfl (lv_at hl 3 rfl) ?_
                    refine lv_iconst (v := 1) hx hb dL_aged_263 (by decide) ?_
                    obtain ⟨v96, e96, h⟩ := mm_bnd h
                    refine md_goi hH hA (va_runV (As := [.int a2, .int 1]) (rest := []) ⟨hx, hb, C.2.2.1, C.2.2.2.1, C.2.2.2.2.1⟩ (ct_X4_of l G T b z a2 1 x e96) (cwV 2 C.2.2.2.2.1 gL_aged_X4_of rfl rfl rfl df_X4_of ⟨Nat.le_of_ble_eq_true rfl, Nat.le_of_ble_eq_true rfl⟩) ⟨mm_B.blind, mm_recvL (q := (RX4, TX4, 7)) C hH.1 kl_0 (mm_e4 kd_0) rfl, mm_preL C hH.1 hA⟩ rfl rfl hl.1 rfl (lv_room (Nat.le_of_ble_eq_true rfl)) dL_aged_264 ⟨Nat.zero_le _, Nat.zero_le _⟩) (fun H locs hH => ?_)
                    refine lv_aload_n hx hb dL_aged_267 rfl (lv_at hl 2 rfl) ?_
                    refine lv_iload_n hx hb dL_aged_268 rfl (lv_at hl 0 rfl) ?_
                    refine lv_iconst (v := 1) hx hb dL_aged_269 (by decide) ?_
                    refine lv_iadd hx hb dL_aged_270 ?_
                    obtain ⟨g61, h⟩ := mm_grn h
                    refine md_dld C hH g61 dL_aged_271 ?_
                    refine lv_icmp_ne (tgt := 279) hx hb dL_aged_272 (by decide) (fun c93 => ?_) (fun c93 => ?_)
                    · have h := mm_neg c93 h
                      have hl := lv_sub (l' := []) hl [] rfl
                      cases h
                    · have h := mm_pos c93 h
                      have hl := lv_sub (l' := []) hl [] rfl
                      refine lv_iconst (v := 1) hx hb dL_aged_275 (by decide) ?_
                      refine lv_goto (tgt := 280) hx hb dL_aged_276 (by decide) ?_
                      exact mm_iretP C hH.1 hr hlk rfl h dL_aged_280
      · have h := mm_pos c83 h
        refine lv_iload hx hb dL_aged_91 (lv_at hl 1 rfl) ?_
        refine lv_aload_n hx hb dL_aged_93 rfl (lv_at hl 4 rfl) ?_
        refine lv_bipush (v := 12) hx hb dL_aged_94 (by decide) ?_
        obtain ⟨v97, e97, h⟩ := mm_bnd h
        refine md_goi hH hA (va_runV (As := [.int 12]) (rest := [.int v88]) ⟨hx, hb, C.2.2.1, C.2.2.2.1, C.2.2.2.2.1⟩ (ct_X4_count l G T b z 12 x e97) (cwV 1 C.2.2.2.2.1 gL_aged_X4_count rfl rfl rfl df_X4_count ⟨Nat.le_of_ble_eq_true rfl, Nat.le_of_ble_eq_true rfl⟩) ⟨mm_B.blind, mm_recvL (q := (RX4, TX4, 7)) C hH.1 kl_0 (mm_e4 kd_0) rfl, mm_preL C hH.1 hA⟩ rfl rfl hl.1 rfl (lv_room (Nat.le_of_ble_eq_true rfl)) dL_aged_96 ⟨Nat.zero_le _, Nat.zero_le _⟩) (fun H locs hH => ?_)
        refine lv_icmp_lt (tgt := 107) hx hb dL_aged_99 (by decide) (fun c94 => ?_) (fun c94 => ?_)
        · have h := mm_pos c94 h
          have hl := lv_sub (l' := [(5, .int v88), (4, .int 1), (3, .int v1), (0, .ref (b + 0)), (1, .ref ad), (2, .int a2)]) hl [1, 2, 3, 4, 5, 6] rfl
          refine lv_iconst (v := 1) hx hb dL_aged_107 (by decide) ?_
          refine lv_goto (tgt := 112) hx hb dL_aged_108 (by decide) ?_
          refine lv_istore (lv' := [(7, .int 1), (5, .int v88), (4, .int 1), (3, .int v1), (0, .ref (b + 0)), (1, .ref ad), (2, .int a2)]) hx hb dL_aged_112 hl (by decide) rfl (fun ls hl => ?_)
          refine lv_iload hx hb dL_aged_114 (lv_at hl 0 rfl) ?_
          refine lv_if_eq (tgt := 141) hx hb dL_aged_116 (by decide) (fun c => absurd c (by decide)) (fun _ => ?_)
          refine lv_iload hx hb dL_aged_119 (lv_at hl 1 rfl) ?_
          refine lv_aload_n hx hb dL_aged_121 rfl (lv_at hl 4 rfl) ?_
          refine lv_bipush (v := 12) hx hb dL_aged_122 (by decide) ?_
          obtain ⟨v98, e98, h⟩ := mm_bnd h
          refine md_goi hH hA (va_runV (As := [.int 12]) (rest := [.int v88]) ⟨hx, hb, C.2.2.1, C.2.2.2.1, C.2.2.2.2.1⟩ (ct_X4_count l G T b z 12 x e98) (cwV 1 C.2.2.2.2.1 gL_aged_X4_count rfl rfl rfl df_X4_count ⟨Nat.le_of_ble_eq_true rfl, Nat.le_of_ble_eq_true rfl⟩) ⟨mm_B.blind, mm_recvL (q := (RX4, TX4, 7)) C hH.1 kl_0 (mm_e4 kd_0) rfl, mm_preL C hH.1 hA⟩ rfl rfl hl.1 rfl (lv_room (Nat.le_of_ble_eq_true rfl)) dL_aged_124 ⟨Nat.zero_le _, Nat.zero_le _⟩) (fun H locs hH => ?_)
          refine lv_icmp_lt (tgt := 141) hx hb dL_aged_127 (by decide) (fun c95 => ?_) (fun c95 => ?_)
          · have h := mm_pos c95 h
            refine lv_iload hx hb dL_aged_141 (lv_at hl 1 rfl) ?_
            refine lv_istore (lv' := [(5, .int v88), (7, .int 1), (4, .int 1), (3, .int v1), (0, .ref (b + 0)), (1, .ref ad), (2, .int a2)]) hx hb dL_aged_143 hl (by decide) rfl (fun ls hl => ?_)
            refine lv_aload_n hx hb dL_aged_145 rfl (lv_at hl 4 rfl) ?_
            refine lv_iload_n hx hb dL_aged_146 rfl (lv_at hl 6 rfl) ?_
            refine lv_iconst (v := 2) hx hb dL_aged_147 (by decide) ?_
            obtain ⟨v99, e99, h⟩ := mm_bnd h
            refine md_goi hH hA (va_runV (As := [.int a2, .int 2]) (rest := []) ⟨hx, hb, C.2.2.1, C.2.2.2.1, C.2.2.2.2.1⟩ (ct_X4_of l G T b z a2 2 x e99) (cwV 2 C.2.2.2.2.1 gL_aged_X4_of rfl rfl rfl df_X4_of ⟨Nat.le_of_ble_eq_true rfl, Nat.le_of_ble_eq_true rfl⟩) ⟨mm_B.blind, mm_recvL (q := (RX4, TX4, 7)) C hH.1 kl_0 (mm_e4 kd_0) rfl, mm_preL C hH.1 hA⟩ rfl rfl hl.1 rfl (lv_room (Nat.le_of_ble_eq_true rfl)) dL_aged_148 ⟨Nat.zero_le _, Nat.zero_le _⟩) (fun H locs hH => ?_)
            refine lv_iload hx hb dL_aged_151 (lv_at hl 0 rfl) ?_
            refine lv_icmp_ne (tgt := 208) hx hb dL_aged_153 (by decide) (fun c96 => ?_) (fun c96 => ?_)
            · have h := mm_neg c96 h
              have hl := lv_sub (l' := [(7, .int 1), (3, .int v1), (0, .ref (b + 0)), (1, .ref ad), (2, .int a2)]) hl [1, 3, 4, 5, 6] rfl
              cases h
            · have h := mm_pos c96 h
              have hl := lv_sub (l' := [(7, .int 1), (4, .int 1), (3, .int v1), (0, .ref (b + 0)), (1, .ref ad), (2, .int a2)]) hl [1, 2, 3, 4, 5, 6] rfl
              refine lv_aload_n hx hb dL_aged_156 rfl (lv_at hl 3 rfl) ?_
              refine lv_iload_n hx hb dL_aged_157 rfl (lv_at hl 5 rfl) ?_
              refine lv_iconst (v := 5) hx hb dL_aged_158 (by decide) ?_
              obtain ⟨v100, e100, h⟩ := mm_bnd h
              refine md_goi hH hA (va_runV (As := [.int a2, .int 5]) (rest := []) ⟨hx, hb, C.2.2.1, C.2.2.2.1, C.2.2.2.2.1⟩ (ct_X4_of l G T b z a2 5 x e100) (cwV 2 C.2.2.2.2.1 gL_aged_X4_of rfl rfl rfl df_X4_of ⟨Nat.le_of_ble_eq_true rfl, Nat.le_of_ble_eq_true rfl⟩) ⟨mm_B.blind, mm_recvL (q := (RX4, TX4, 7)) C hH.1 kl_0 (mm_e4 kd_0) rfl, mm_preL C hH.1 hA⟩ rfl rfl hl.1 rfl (lv_room (Nat.le_of_ble_eq_true rfl)) dL_aged_159 ⟨Nat.zero_le _, Nat.zero_le _⟩) (fun H locs hH => ?_)
              refine lv_iload hx hb dL_aged_162 (lv_at hl 1 rfl) ?_
              refine lv_if_eq (tgt := 171) hx hb dL_aged_164 (by decide) (fun c => absurd c (by decide)) (fun _ => ?_)
              have hl := lv_sub (l' := [(7, .int 1), (3, .int v1), (0, .ref (b + 0)), (1, .ref ad), (2, .int a2)]) hl [0, 2, 3, 4, 5] rfl
              refine lv_iconst (v := 0) hx hb dL_aged_167 (by decide) ?_
              refine lv_goto (tgt := 178) hx hb dL_aged_168 (by decide) ?_
              refine lv_icmp_ne (tgt := 208) hx hb dL_aged_178 (by decide) (fun c97 => ?_) (fun c97 => ?_)
              · have h := mm_neg c97 h
                cases h
              · have h := mm_pos c97 h
                refine lv_aload_n hx hb dL_aged_181 rfl (lv_at hl 2 rfl) ?_
                refine lv_iload_n hx hb dL_aged_182 rfl (lv_at hl 4 rfl) ?_
                refine lv_iconst (v := 3) hx hb dL_aged_183 (by decide) ?_
                obtain ⟨v101, e101, h⟩ := mm_bnd h
                refine md_goi hH hA (va_runV (As := [.int a2, .int 3]) (rest := []) ⟨hx, hb, C.2.2.1, C.2.2.2.1, C.2.2.2.2.1⟩ (ct_X4_of l G T b z a2 3 x e101) (cwV 2 C.2.2.2.2.1 gL_aged_X4_of rfl rfl rfl df_X4_of ⟨Nat.le_of_ble_eq_true rfl, Nat.le_of_ble_eq_true rfl⟩) ⟨mm_B.blind, mm_recvL (q := (RX4, TX4, 7)) C hH.1 kl_0 (mm_e4 kd_0) rfl, mm_preL C hH.1 hA⟩ rfl rfl hl.1 rfl (lv_room (Nat.le_of_ble_eq_true rfl)) dL_aged_184 ⟨Nat.zero_le _, Nat.zero_le _⟩) (fun H locs hH => ?_)
                refine lv_iload hx hb dL_aged_187 (lv_at hl 0 rfl) ?_
                refine lv_if_eq (tgt := 196) hx hb dL_aged_189 (by decide) (fun c => absurd c (by decide)) (fun _ => ?_)
                refine lv_iconst (v := 0) hx hb dL_aged_192 (by decide) ?_
                refine lv_goto (tgt := 201) hx hb dL_aged_193 (by decide) ?_
                refine lv_icmp_ne (tgt := 208) hx hb dL_aged_201 (by decide) (fun c98 => ?_) (fun c98 => ?_)
                · have h := mm_neg c98 h
                  cases h
                · have h := mm_pos c98 h
                  refine lv_iconst (v := 1) hx hb dL_aged_204 (by decide) ?_
                  refine lv_goto (tgt := 209) hx hb dL_aged_205 (by decide) ?_
                  refine lv_istore (lv' := [(8, .int 1), (7, .int 1), (3, .int v1), (0, .ref (b + 0)), (1, .ref ad), (2, .int a2)]) hx hb dL_aged_209 hl (by decide) rfl (fun ls hl => ?_)
                  refine lv_iload hx hb dL_aged_211 (lv_at hl 0 rfl) ?_
                  refine lv_if_eq (tgt := 279) hx hb dL_aged_213 (by decide) (fun c => absurd c (by decide)) (fun _ => ?_)
                  have hl := lv_sub (l' := [(7, .int 1), (3, .int v1), (0, .ref (b + 0)), (1, .ref ad), (2, .int a2)]) hl [1, 2, 3, 4, 5] rfl
                  refine lv_aload_n hx hb dL_aged_216 rfl (lv_at hl 2 rfl) ?_
                  refine lv_iload_n hx hb dL_aged_217 rfl (lv_at hl 4 rfl) ?_
                  refine lv_iconst (v := 4) hx hb dL_aged_218 (by decide) ?_
                  obtain ⟨v102, e102, h⟩ := mm_bnd h
                  refine md_goi hH hA (va_runV (As := [.int a2, .int 4]) (rest := []) ⟨hx, hb, C.2.2.1, C.2.2.2.1, C.2.2.2.2.1⟩ (ct_X4_of l G T b z a2 4 x e102) (cwV 2 C.2.2.2.2.1 gL_aged_X4_of rfl rfl rfl df_X4_of ⟨Nat.le_of_ble_eq_true rfl, Nat.le_of_ble_eq_true rfl⟩) ⟨mm_B.blind, mm_recvL (q := (RX4, TX4, 7)) C hH.1 kl_0 (mm_e4 kd_0) rfl, mm_preL C hH.1 hA⟩ rfl rfl hl.1 rfl (lv_room (Nat.le_of_ble_eq_true rfl)) dL_aged_219 ⟨Nat.zero_le _, Nat.zero_le _⟩) (fun H locs hH => ?_)
                  refine lv_iload hx hb dL_aged_222 (lv_at hl 0 rfl) ?_
                  refine lv_if_ne (tgt := 235) hx hb dL_aged_224 (by decide) (fun _ => ?_) (fun c => absurd c (by decide))
                  have hl := lv_sub (l' := [(3, .int v1), (0, .ref (b + 0)), (1, .ref ad), (2, .int a2)]) hl [1, 2, 3, 4] rfl
                  refine lv_iconst (v := 0) hx hb dL_aged_235 (by decide) ?_
                  refine lv_goto (tgt := 246) hx hb dL_aged_236 (by decide) ?_
                  refine lv_icmp_ne (tgt := 279) hx hb dL_aged_246 (by decide) (fun c99 => ?_) (fun c99 => ?_)
                  · have h := mm_neg c99 h
                    have hl := lv_sub (l' := []) hl [] rfl
                    cases h
                  · have h := mm_pos c99 h
                    refine lv_aload_n hx hb dL_aged_249 rfl (lv_at hl 1 rfl) ?_
                    refine lv_iload_n hx hb dL_aged_250 rfl (lv_at hl 3 rfl) ?_
                    refine lv_iconst (v := 0) hx hb dL_aged_251 (by decide) ?_
                    obtain ⟨v103, e103, h⟩ := mm_bnd h
                    refine md_goi hH hA (va_runV (As := [.int a2, .int 0]) (rest := []) ⟨hx, hb, C.2.2.1, C.2.2.2.1, C.2.2.2.2.1⟩ (ct_X4_of l G T b z a2 0 x e103) (cwV 2 C.2.2.2.2.1 gL_aged_X4_of rfl rfl rfl df_X4_of ⟨Nat.le_of_ble_eq_true rfl, Nat.le_of_ble_eq_true rfl⟩) ⟨mm_B.blind, mm_recvL (q := (RX4, TX4, 7)) C hH.1 kl_0 (mm_e4 kd_0) rfl, mm_preL C hH.1 hA⟩ rfl rfl hl.1 rfl (lv_room (Nat.le_of_ble_eq_true rfl)) dL_aged_252 ⟨Nat.zero_le _, Nat.zero_le _⟩) (fun H locs hH => ?_)
                    refine lv_aload_n hx hb dL_aged_255 rfl (lv_at hl 2 rfl) ?_
                    refine lv_iload_n hx hb dL_aged_256 rfl (lv_at hl 0 rfl) ?_
                    obtain ⟨g62, h⟩ := mm_grn h
                    refine md_dld C hH g62 dL_aged_257 ?_
                    refine lv_icmp_ne (tgt := 279) hx hb dL_aged_258 (by decide) (fun c100 => ?_) (fun c100 => ?_)
                    · have h := mm_neg c100 h
                      have hl := lv_sub (l' := []) hl [] rfl
                      cases h
                    · have h := mm_pos c100 h
                      refine lv_aload_n hx hb dL_aged_261 rfl (lv_at hl 1 rfl) ?_
                      refine lv_iload_n hx hb dL_aged_262 rfl (lv_at hl 3 rfl) ?_
                      refine lv_iconst (v := 1) hx hb dL_aged_263 (by decide) ?_
                      obtain ⟨v104, e104, h⟩ := mm_bnd h
                      refine md_goi hH hA (va_runV (As := [.int a2, .int 1]) (rest := []) ⟨hx, hb, C.2.2.1, C.2.2.2.1, C.2.2.2.2.1⟩ (ct_X4_of l G T b z a2 1 x e104) (cwV 2 C.2.2.2.2.1 gL_aged_X4_of rfl rfl rfl df_X4_of ⟨Nat.le_of_ble_eq_true rfl, Nat.le_of_ble_eq_true rfl⟩) ⟨mm_B.blind, mm_recvL (q := (RX4, TX4, 7)) C hH.1 kl_0 (mm_e4 kd_0) rfl, mm_preL C hH.1 hA⟩ rfl rfl hl.1 rfl (lv_room (Nat.le_of_ble_eq_true rfl)) dL_aged_264 ⟨Nat.zero_le _, Nat.zero_le _⟩) (fun H locs hH => ?_)
                      refine lv_aload_n hx hb dL_aged_267 rfl (lv_at hl 2 rfl) ?_
                      refine lv_iload_n hx hb dL_aged_268 rfl (lv_at hl 0 rfl) ?_
                      refine lv_iconst (v := 1) hx hb dL_aged_269 (by decide) ?_
                      refine lv_iadd hx hb dL_aged_270 ?_
                      obtain ⟨g63, h⟩ := mm_grn h
                      refine md_dld C hH g63 dL_aged_271 ?_
                      refine lv_icmp_ne (tgt := 279) hx hb dL_aged_272 (by decide) (fun c101 => ?_) (fun c101 => ?_)
                      · have h := mm_neg c101 h
                        have hl := lv_sub (l' := []) hl [] rfl
                        cases h
                      · have h := mm_pos c101 h
                        have hl := lv_sub (l' := []) hl [] rfl
                        refine lv_iconst (v := 1) hx hb dL_aged_275 (by decide) ?_
                        refine lv_goto (tgt := 280) hx hb dL_aged_276 (by decide) ?_
                        exact mm_iretP C hH.1 hr hlk rfl h dL_aged_280
          · have h := mm_neg c95 h
            have hl := lv_sub (l' := [(7, .int 1), (4, .int 1), (3, .int v1), (0, .ref (b + 0)), (1, .ref ad), (2, .int a2)]) hl [0, 2, 3, 4, 5, 6] rfl
            refine lv_aload_n hx hb dL_aged_130 rfl (lv_at hl 3 rfl) ?_
            refine lv_bipush (v := 12) hx hb dL_aged_131 (by decide) ?_
            obtain ⟨v105, e105, h⟩ := mm_bnd h
            refine md_goi hH hA (va_runV (As := [.int 12]) (rest := []) ⟨hx, hb, C.2.2.1, C.2.2.2.1, C.2.2.2.2.1⟩ (ct_X4_count l G T b z 12 x e105) (cwV 1 C.2.2.2.2.1 gL_aged_X4_count rfl rfl rfl df_X4_count ⟨Nat.le_of_ble_eq_true rfl, Nat.le_of_ble_eq_true rfl⟩) ⟨mm_B.blind, mm_recvL (q := (RX4, TX4, 7)) C hH.1 kl_0 (mm_e4 kd_0) rfl, mm_preL C hH.1 hA⟩ rfl rfl hl.1 rfl (lv_room (Nat.le_of_ble_eq_true rfl)) dL_aged_133 ⟨Nat.zero_le _, Nat.zero_le _⟩) (fun H locs hH => ?_)
            refine lv_iconst (v := 1) hx hb dL_aged_136 (by decide) ?_
            refine lv_isub hx hb dL_aged_137 ?_
            refine lv_goto (tgt := 143) hx hb dL_aged_138 (by decide) ?_
            obtain ⟨v106, e106, h⟩ := mm_bnd h
            refine mm_nmi e106 ?_
            refine lv_istore (lv' := [(5, .int v106), (7, .int 1), (4, .int 1), (3, .int v1), (0, .ref (b + 0)), (1, .ref ad), (2, .int a2)]) hx hb dL_aged_143 hl (by decide) rfl (fun ls hl => ?_)
            refine lv_aload_n hx hb dL_aged_145 rfl (lv_at hl 4 rfl) ?_
            refine lv_iload_n hx hb dL_aged_146 rfl (lv_at hl 6 rfl) ?_
            refine lv_iconst (v := 2) hx hb dL_aged_147 (by decide) ?_
            obtain ⟨v107, e107, h⟩ := mm_bnd h
            refine md_goi hH hA (va_runV (As := [.int a2, .int 2]) (rest := []) ⟨hx, hb, C.2.2.1, C.2.2.2.1, C.2.2.2.2.1⟩ (ct_X4_of l G T b z a2 2 x e107) (cwV 2 C.2.2.2.2.1 gL_aged_X4_of rfl rfl rfl df_X4_of ⟨Nat.le_of_ble_eq_true rfl, Nat.le_of_ble_eq_true rfl⟩) ⟨mm_B.blind, mm_recvL (q := (RX4, TX4, 7)) C hH.1 kl_0 (mm_e4 kd_0) rfl, mm_preL C hH.1 hA⟩ rfl rfl hl.1 rfl (lv_room (Nat.le_of_ble_eq_true rfl)) dL_aged_148 ⟨Nat.zero_le _, Nat.zero_le _⟩) (fun H locs hH => ?_)
            refine lv_iload hx hb dL_aged_151 (lv_at hl 0 rfl) ?_
            refine lv_icmp_ne (tgt := 208) hx hb dL_aged_153 (by decide) (fun c102 => ?_) (fun c102 => ?_)
            · have h := mm_neg c102 h
              have hl := lv_sub (l' := [(7, .int 1), (3, .int v1), (0, .ref (b + 0)), (1, .ref ad), (2, .int a2)]) hl [1, 3, 4, 5, 6] rfl
              cases h
            · have h := mm_pos c102 h
              have hl := lv_sub (l' := [(7, .int 1), (4, .int 1), (3, .int v1), (0, .ref (b + 0)), (1, .ref ad), (2, .int a2)]) hl [1, 2, 3, 4, 5, 6] rfl
              refine lv_aload_n hx hb dL_aged_156 rfl (lv_at hl 3 rfl) ?_
              refine lv_iload_n hx hb dL_aged_157 rfl (lv_at hl 5 rfl) ?_
              refine lv_iconst (v := 5) hx hb dL_aged_158 (by decide) ?_
              obtain ⟨v108, e108, h⟩ := mm_bnd h
              refine md_goi hH hA (va_runV (As := [.int a2, .int 5]) (rest := []) ⟨hx, hb, C.2.2.1, C.2.2.2.1, C.2.2.2.2.1⟩ (ct_X4_of l G T b z a2 5 x e108) (cwV 2 C.2.2.2.2.1 gL_aged_X4_of rfl rfl rfl df_X4_of ⟨Nat.le_of_ble_eq_true rfl, Nat.le_of_ble_eq_true rfl⟩) ⟨mm_B.blind, mm_recvL (q := (RX4, TX4, 7)) C hH.1 kl_0 (mm_e4 kd_0) rfl, mm_preL C hH.1 hA⟩ rfl rfl hl.1 rfl (lv_room (Nat.le_of_ble_eq_true rfl)) dL_aged_159 ⟨Nat.zero_le _, Nat.zero_le _⟩) (fun H locs hH => ?_)
              refine lv_iload hx hb dL_aged_162 (lv_at hl 1 rfl) ?_
              refine lv_if_eq (tgt := 171) hx hb dL_aged_164 (by decide) (fun c => absurd c (by decide)) (fun _ => ?_)
              have hl := lv_sub (l' := [(7, .int 1), (3, .int v1), (0, .ref (b + 0)), (1, .ref ad), (2, .int a2)]) hl [0, 2, 3, 4, 5] rfl
              refine lv_iconst (v := 0) hx hb dL_aged_167 (by decide) ?_
              refine lv_goto (tgt := 178) hx hb dL_aged_168 (by decide) ?_
              refine lv_icmp_ne (tgt := 208) hx hb dL_aged_178 (by decide) (fun c103 => ?_) (fun c103 => ?_)
              · have h := mm_neg c103 h
                cases h
              · have h := mm_pos c103 h
                refine lv_aload_n hx hb dL_aged_181 rfl (lv_at hl 2 rfl) ?_
                refine lv_iload_n hx hb dL_aged_182 rfl (lv_at hl 4 rfl) ?_
                refine lv_iconst (v := 3) hx hb dL_aged_183 (by decide) ?_
                obtain ⟨v109, e109, h⟩ := mm_bnd h
                refine md_goi hH hA (va_runV (As := [.int a2, .int 3]) (rest := []) ⟨hx, hb, C.2.2.1, C.2.2.2.1, C.2.2.2.2.1⟩ (ct_X4_of l G T b z a2 3 x e109) (cwV 2 C.2.2.2.2.1 gL_aged_X4_of rfl rfl rfl df_X4_of ⟨Nat.le_of_ble_eq_true rfl, Nat.le_of_ble_eq_true rfl⟩) ⟨mm_B.blind, mm_recvL (q := (RX4, TX4, 7)) C hH.1 kl_0 (mm_e4 kd_0) rfl, mm_preL C hH.1 hA⟩ rfl rfl hl.1 rfl (lv_room (Nat.le_of_ble_eq_true rfl)) dL_aged_184 ⟨Nat.zero_le _, Nat.zero_le _⟩) (fun H locs hH => ?_)
                refine lv_iload hx hb dL_aged_187 (lv_at hl 0 rfl) ?_
                refine lv_if_eq (tgt := 196) hx hb dL_aged_189 (by decide) (fun c => absurd c (by decide)) (fun _ => ?_)
                refine lv_iconst (v := 0) hx hb dL_aged_192 (by decide) ?_
                refine lv_goto (tgt := 201) hx hb dL_aged_193 (by decide) ?_
                refine lv_icmp_ne (tgt := 208) hx hb dL_aged_201 (by decide) (fun c104 => ?_) (fun c104 => ?_)
                · have h := mm_neg c104 h
                  cases h
                · have h := mm_pos c104 h
                  refine lv_iconst (v := 1) hx hb dL_aged_204 (by decide) ?_
                  refine lv_goto (tgt := 209) hx hb dL_aged_205 (by decide) ?_
                  refine lv_istore (lv' := [(8, .int 1), (7, .int 1), (3, .int v1), (0, .ref (b + 0)), (1, .ref ad), (2, .int a2)]) hx hb dL_aged_209 hl (by decide) rfl (fun ls hl => ?_)
                  refine lv_iload hx hb dL_aged_211 (lv_at hl 0 rfl) ?_
                  refine lv_if_eq (tgt := 279) hx hb dL_aged_213 (by decide) (fun c => absurd c (by decide)) (fun _ => ?_)
                  have hl := lv_sub (l' := [(7, .int 1), (3, .int v1), (0, .ref (b + 0)), (1, .ref ad), (2, .int a2)]) hl [1, 2, 3, 4, 5] rfl
                  refine lv_aload_n hx hb dL_aged_216 rfl (lv_at hl 2 rfl) ?_
                  refine lv_iload_n hx hb dL_aged_217 rfl (lv_at hl 4 rfl) ?_
                  refine lv_iconst (v := 4) hx hb dL_aged_218 (by decide) ?_
                  obtain ⟨v110, e110, h⟩ := mm_bnd h
                  refine md_goi hH hA (va_runV (As := [.int a2, .int 4]) (rest := []) ⟨hx, hb, C.2.2.1, C.2.2.2.1, C.2.2.2.2.1⟩ (ct_X4_of l G T b z a2 4 x e110) (cwV 2 C.2.2.2.2.1 gL_aged_X4_of rfl rfl rfl df_X4_of ⟨Nat.le_of_ble_eq_true rfl, Nat.le_of_ble_eq_true rfl⟩) ⟨mm_B.blind, mm_recvL (q := (RX4, TX4, 7)) C hH.1 kl_0 (mm_e4 kd_0) rfl, mm_preL C hH.1 hA⟩ rfl rfl hl.1 rfl (lv_room (Nat.le_of_ble_eq_true rfl)) dL_aged_219 ⟨Nat.zero_le _, Nat.zero_le _⟩) (fun H locs hH => ?_)
                  refine lv_iload hx hb dL_aged_222 (lv_at hl 0 rfl) ?_
                  refine lv_if_ne (tgt := 235) hx hb dL_aged_224 (by decide) (fun _ => ?_) (fun c => absurd c (by decide))
                  have hl := lv_sub (l' := [(3, .int v1), (0, .ref (b + 0)), (1, .ref ad), (2, .int a2)]) hl [1, 2, 3, 4] rfl
                  refine lv_iconst (v := 0) hx hb dL_aged_235 (by decide) ?_
                  refine lv_goto (tgt := 246) hx hb dL_aged_236 (by decide) ?_
                  refine lv_icmp_ne (tgt := 279) hx hb dL_aged_246 (by decide) (fun c105 => ?_) (fun c105 => ?_)
                  · have h := mm_neg c105 h
                    have hl := lv_sub (l' := []) hl [] rfl
                    cases h
                  · have h := mm_pos c105 h
                    refine lv_aload_n hx hb dL_aged_249 rfl (lv_at hl 1 rfl) ?_
                    refine lv_iload_n hx hb dL_aged_250 rfl (lv_at hl 3 rfl) ?_
                    refine lv_iconst (v := 0) hx hb dL_aged_251 (by decide) ?_
                    obtain ⟨v111, e111, h⟩ := mm_bnd h
                    refine md_goi hH hA (va_runV (As := [.int a2, .int 0]) (rest := []) ⟨hx, hb, C.2.2.1, C.2.2.2.1, C.2.2.2.2.1⟩ (ct_X4_of l G T b z a2 0 x e111) (cwV 2 C.2.2.2.2.1 gL_aged_X4_of rfl rfl rfl df_X4_of ⟨Nat.le_of_ble_eq_true rfl, Nat.le_of_ble_eq_true rfl⟩) ⟨mm_B.blind, mm_recvL (q := (RX4, TX4, 7)) C hH.1 kl_0 (mm_e4 kd_0) rfl, mm_preL C hH.1 hA⟩ rfl rfl hl.1 rfl (lv_room (Nat.le_of_ble_eq_true rfl)) dL_aged_252 ⟨Nat.zero_le _, Nat.zero_le _⟩) (fun H locs hH => ?_)
                    refine lv_aload_n hx hb dL_aged_255 rfl (lv_at hl 2 rfl) ?_
                    refine lv_iload_n hx hb dL_aged_256 rfl (lv_at hl 0 rfl) ?_
                    obtain ⟨g64, h⟩ := mm_grn h
                    refine md_dld C hH g64 dL_aged_257 ?_
                    refine lv_icmp_ne (tgt := 279) hx hb dL_aged_258 (by decide) (fun c106 => ?_) (fun c106 => ?_)
                    · have h := mm_neg c106 h
                      have hl := lv_sub (l' := []) hl [] rfl
                      cases h
                    · have h := mm_pos c106 h
                      refine lv_aload_n hx hb dL_aged_261 rfl (lv_at hl 1 rfl) ?_
                      refine lv_iload_n hx hb dL_aged_262 rfl (lv_at hl 3 rfl) ?_
                      refine lv_iconst (v := 1) hx hb dL_aged_263 (by decide) ?_
                      obtain ⟨v112, e112, h⟩ := mm_bnd h
                      refine md_goi hH hA (va_runV (As := [.int a2, .int 1]) (rest := []) ⟨hx, hb, C.2.2.1, C.2.2.2.1, C.2.2.2.2.1⟩ (ct_X4_of l G T b z a2 1 x e112) (cwV 2 C.2.2.2.2.1 gL_aged_X4_of rfl rfl rfl df_X4_of ⟨Nat.le_of_ble_eq_true rfl, Nat.le_of_ble_eq_true rfl⟩) ⟨mm_B.blind, mm_recvL (q := (RX4, TX4, 7)) C hH.1 kl_0 (mm_e4 kd_0) rfl, mm_preL C hH.1 hA⟩ rfl rfl hl.1 rfl (lv_room (Nat.le_of_ble_eq_true rfl)) dL_aged_264 ⟨Nat.zero_le _, Nat.zero_le _⟩) (fun H locs hH => ?_)
                      refine lv_aload_n hx hb dL_aged_267 rfl (lv_at hl 2 rfl) ?_
                      refine lv_iload_n hx hb dL_aged_268 rfl (lv_at hl 0 rfl) ?_
                      refine lv_iconst (v := 1) hx hb dL_aged_269 (by decide) ?_
                      refine lv_iadd hx hb dL_aged_270 ?_
                      obtain ⟨g65, h⟩ := mm_grn h
                      refine md_dld C hH g65 dL_aged_271 ?_
                      refine lv_icmp_ne (tgt := 279) hx hb dL_aged_272 (by decide) (fun c107 => ?_) (fun c107 => ?_)
                      · have h := mm_neg c107 h
                        have hl := lv_sub (l' := []) hl [] rfl
                        cases h
                      · have h := mm_pos c107 h
                        have hl := lv_sub (l' := []) hl [] rfl
                        refine lv_iconst (v := 1) hx hb dL_aged_275 (by decide) ?_
                        refine lv_goto (tgt := 280) hx hb dL_aged_276 (by decide) ?_
                        exact mm_iretP C hH.1 hr hlk rfl h dL_aged_280
        · have h := mm_neg c94 h
          refine lv_iload hx hb dL_aged_102 (lv_at hl 0 rfl) ?_
          refine lv_if_eq (tgt := 111) hx hb dL_aged_104 (by decide) (fun _ => ?_) (fun c => absurd (by decide) c)
          have hl := lv_sub (l' := [(5, .int v88), (4, .int 1), (3, .int v1), (0, .ref (b + 0)), (1, .ref ad), (2, .int a2)]) hl [1, 2, 3, 4, 5, 6] rfl
          refine lv_iconst (v := 0) hx hb dL_aged_111 (by decide) ?_
          refine lv_istore (lv' := [(7, .int 0), (5, .int v88), (4, .int 1), (3, .int v1), (0, .ref (b + 0)), (1, .ref ad), (2, .int a2)]) hx hb dL_aged_112 hl (by decide) rfl (fun ls hl => ?_)
          refine lv_iload hx hb dL_aged_114 (lv_at hl 0 rfl) ?_
          refine lv_if_eq (tgt := 141) hx hb dL_aged_116 (by decide) (fun _ => ?_) (fun c => absurd (by decide) c)
          refine lv_iload hx hb dL_aged_141 (lv_at hl 1 rfl) ?_
          refine lv_istore (lv' := [(5, .int v88), (7, .int 0), (4, .int 1), (3, .int v1), (0, .ref (b + 0)), (1, .ref ad), (2, .int a2)]) hx hb dL_aged_143 hl (by decide) rfl (fun ls hl => ?_)
          refine lv_aload_n hx hb dL_aged_145 rfl (lv_at hl 4 rfl) ?_
          refine lv_iload_n hx hb dL_aged_146 rfl (lv_at hl 6 rfl) ?_
          refine lv_iconst (v := 2) hx hb dL_aged_147 (by decide) ?_
          obtain ⟨v113, e113, h⟩ := mm_bnd h
          refine md_goi hH hA (va_runV (As := [.int a2, .int 2]) (rest := []) ⟨hx, hb, C.2.2.1, C.2.2.2.1, C.2.2.2.2.1⟩ (ct_X4_of l G T b z a2 2 x e113) (cwV 2 C.2.2.2.2.1 gL_aged_X4_of rfl rfl rfl df_X4_of ⟨Nat.le_of_ble_eq_true rfl, Nat.le_of_ble_eq_true rfl⟩) ⟨mm_B.blind, mm_recvL (q := (RX4, TX4, 7)) C hH.1 kl_0 (mm_e4 kd_0) rfl, mm_preL C hH.1 hA⟩ rfl rfl hl.1 rfl (lv_room (Nat.le_of_ble_eq_true rfl)) dL_aged_148 ⟨Nat.zero_le _, Nat.zero_le _⟩) (fun H locs hH => ?_)
          refine lv_iload hx hb dL_aged_151 (lv_at hl 0 rfl) ?_
          refine lv_icmp_ne (tgt := 208) hx hb dL_aged_153 (by decide) (fun c108 => ?_) (fun c108 => ?_)
          · have h := mm_neg c108 h
            have hl := lv_sub (l' := [(7, .int 0), (3, .int v1), (0, .ref (b + 0)), (1, .ref ad), (2, .int a2)]) hl [1, 3, 4, 5, 6] rfl
            cases h
          · have h := mm_pos c108 h
            have hl := lv_sub (l' := [(7, .int 0), (4, .int 1), (3, .int v1), (0, .ref (b + 0)), (1, .ref ad), (2, .int a2)]) hl [1, 2, 3, 4, 5, 6] rfl
            refine lv_aload_n hx hb dL_aged_156 rfl (lv_at hl 3 rfl) ?_
            refine lv_iload_n hx hb dL_aged_157 rfl (lv_at hl 5 rfl) ?_
            refine lv_iconst (v := 5) hx hb dL_aged_158 (by decide) ?_
            obtain ⟨v114, e114, h⟩ := mm_bnd h
            refine md_goi hH hA (va_runV (As := [.int a2, .int 5]) (rest := []) ⟨hx, hb, C.2.2.1, C.2.2.2.1, C.2.2.2.2.1⟩ (ct_X4_of l G T b z a2 5 x e114) (cwV 2 C.2.2.2.2.1 gL_aged_X4_of rfl rfl rfl df_X4_of ⟨Nat.le_of_ble_eq_true rfl, Nat.le_of_ble_eq_true rfl⟩) ⟨mm_B.blind, mm_recvL (q := (RX4, TX4, 7)) C hH.1 kl_0 (mm_e4 kd_0) rfl, mm_preL C hH.1 hA⟩ rfl rfl hl.1 rfl (lv_room (Nat.le_of_ble_eq_true rfl)) dL_aged_159 ⟨Nat.zero_le _, Nat.zero_le _⟩) (fun H locs hH => ?_)
            refine lv_iload hx hb dL_aged_162 (lv_at hl 1 rfl) ?_
            refine lv_if_eq (tgt := 171) hx hb dL_aged_164 (by decide) (fun c => absurd c (by decide)) (fun _ => ?_)
            have hl := lv_sub (l' := [(7, .int 0), (3, .int v1), (0, .ref (b + 0)), (1, .ref ad), (2, .int a2)]) hl [0, 2, 3, 4, 5] rfl
            refine lv_iconst (v := 0) hx hb dL_aged_167 (by decide) ?_
            refine lv_goto (tgt := 178) hx hb dL_aged_168 (by decide) ?_
            refine lv_icmp_ne (tgt := 208) hx hb dL_aged_178 (by decide) (fun c109 => ?_) (fun c109 => ?_)
            · have h := mm_neg c109 h
              cases h
            · have h := mm_pos c109 h
              refine lv_aload_n hx hb dL_aged_181 rfl (lv_at hl 2 rfl) ?_
              refine lv_iload_n hx hb dL_aged_182 rfl (lv_at hl 4 rfl) ?_
              refine lv_iconst (v := 3) hx hb dL_aged_183 (by decide) ?_
              obtain ⟨v115, e115, h⟩ := mm_bnd h
              refine md_goi hH hA (va_runV (As := [.int a2, .int 3]) (rest := []) ⟨hx, hb, C.2.2.1, C.2.2.2.1, C.2.2.2.2.1⟩ (ct_X4_of l G T b z a2 3 x e115) (cwV 2 C.2.2.2.2.1 gL_aged_X4_of rfl rfl rfl df_X4_of ⟨Nat.le_of_ble_eq_true rfl, Nat.le_of_ble_eq_true rfl⟩) ⟨mm_B.blind, mm_recvL (q := (RX4, TX4, 7)) C hH.1 kl_0 (mm_e4 kd_0) rfl, mm_preL C hH.1 hA⟩ rfl rfl hl.1 rfl (lv_room (Nat.le_of_ble_eq_true rfl)) dL_aged_184 ⟨Nat.zero_le _, Nat.zero_le _⟩) (fun H locs hH => ?_)
              refine lv_iload hx hb dL_aged_187 (lv_at hl 0 rfl) ?_
              refine lv_if_eq (tgt := 196) hx hb dL_aged_189 (by decide) (fun _ => ?_) (fun c => absurd (by decide) c)
              refine lv_aload_n hx hb dL_aged_196 rfl (lv_at hl 3 rfl) ?_
              refine lv_iload_n hx hb dL_aged_197 rfl (lv_at hl 1 rfl) ?_
              refine lv_iconst (v := 3) hx hb dL_aged_198 (by decide) ?_
              refine lv_iadd hx hb dL_aged_199 ?_
              obtain ⟨g66, h⟩ := mm_grn h
              refine md_dld C hH g66 dL_aged_200 ?_
              refine lv_icmp_ne (tgt := 208) hx hb dL_aged_201 (by decide) (fun c110 => ?_) (fun c110 => ?_)
              · have h := mm_neg c110 h
                cases h
              · have h := mm_pos c110 h
                refine lv_iconst (v := 1) hx hb dL_aged_204 (by decide) ?_
                refine lv_goto (tgt := 209) hx hb dL_aged_205 (by decide) ?_
                refine lv_istore (lv' := [(8, .int 1), (7, .int 0), (3, .int v1), (0, .ref (b + 0)), (1, .ref ad), (2, .int a2)]) hx hb dL_aged_209 hl (by decide) rfl (fun ls hl => ?_)
                refine lv_iload hx hb dL_aged_211 (lv_at hl 0 rfl) ?_
                refine lv_if_eq (tgt := 279) hx hb dL_aged_213 (by decide) (fun c => absurd c (by decide)) (fun _ => ?_)
                have hl := lv_sub (l' := [(7, .int 0), (3, .int v1), (0, .ref (b + 0)), (1, .ref ad), (2, .int a2)]) hl [1, 2, 3, 4, 5] rfl
                refine lv_aload_n hx hb dL_aged_216 rfl (lv_at hl 2 rfl) ?_
                refine lv_iload_n hx hb dL_aged_217 rfl (lv_at hl 4 rfl) ?_
                refine lv_iconst (v := 4) hx hb dL_aged_218 (by decide) ?_
                obtain ⟨v116, e116, h⟩ := mm_bnd h
                refine md_goi hH hA (va_runV (As := [.int a2, .int 4]) (rest := []) ⟨hx, hb, C.2.2.1, C.2.2.2.1, C.2.2.2.2.1⟩ (ct_X4_of l G T b z a2 4 x e116) (cwV 2 C.2.2.2.2.1 gL_aged_X4_of rfl rfl rfl df_X4_of ⟨Nat.le_of_ble_eq_true rfl, Nat.le_of_ble_eq_true rfl⟩) ⟨mm_B.blind, mm_recvL (q := (RX4, TX4, 7)) C hH.1 kl_0 (mm_e4 kd_0) rfl, mm_preL C hH.1 hA⟩ rfl rfl hl.1 rfl (lv_room (Nat.le_of_ble_eq_true rfl)) dL_aged_219 ⟨Nat.zero_le _, Nat.zero_le _⟩) (fun H locs hH => ?_)
                refine lv_iload hx hb dL_aged_222 (lv_at hl 0 rfl) ?_
                refine lv_if_ne (tgt := 235) hx hb dL_aged_224 (by decide) (fun c => absurd (by decide) c) (fun _ => ?_)
                have hl := lv_sub (l' := [(3, .int v1), (0, .ref (b + 0)), (1, .ref ad), (2, .int a2)]) hl [1, 2, 3, 4] rfl
                refine lv_aload_n hx hb dL_aged_227 rfl (lv_at hl 2 rfl) ?_
                refine lv_iload_n hx hb dL_aged_228 rfl (lv_at hl 0 rfl) ?_
                refine lv_iconst (v := 3) hx hb dL_aged_229 (by decide) ?_
                refine lv_iadd hx hb dL_aged_230 ?_
                obtain ⟨g67, h⟩ := mm_grn h
                refine md_dld C hH g67 dL_aged_231 ?_
                refine lv_if_ne (tgt := 239) hx hb dL_aged_232 (by decide) (fun _ => ?_) (fun c => absurd (c83.symm.trans c) (by decide))
                refine lv_aload_n hx hb dL_aged_239 rfl (lv_at hl 2 rfl) ?_
                refine lv_iload_n hx hb dL_aged_240 rfl (lv_at hl 0 rfl) ?_
                refine lv_iconst (v := 4) hx hb dL_aged_241 (by decide) ?_
                refine lv_iadd hx hb dL_aged_242 ?_
                obtain ⟨g68, h⟩ := mm_grn h
                refine md_dld C hH g68 dL_aged_243 ?_
                refine lv_iconst (v := 1) hx hb dL_aged_244 (by decide) ?_
                refine lv_iadd hx hb dL_aged_245 ?_
                refine lv_icmp_ne (tgt := 279) hx hb dL_aged_246 (by decide) (fun c111 => ?_) (fun c111 => ?_)
                · have h := mm_neg c111 h
                  have hl := lv_sub (l' := []) hl [] rfl
                  cases h
                · have h := mm_pos c111 h
                  refine lv_aload_n hx hb dL_aged_249 rfl (lv_at hl 1 rfl) ?_
                  refine lv_iload_n hx hb dL_aged_250 rfl (lv_at hl 3 rfl) ?_
                  refine lv_iconst (v := 0) hx hb dL_aged_251 (by decide) ?_
                  obtain ⟨v117, e117, h⟩ := mm_bnd h
                  refine md_goi hH hA (va_runV (As := [.int a2, .int 0]) (rest := []) ⟨hx, hb, C.2.2.1, C.2.2.2.1, C.2.2.2.2.1⟩ (ct_X4_of l G T b z a2 0 x e117) (cwV 2 C.2.2.2.2.1 gL_aged_X4_of rfl rfl rfl df_X4_of ⟨Nat.le_of_ble_eq_true rfl, Nat.le_of_ble_eq_true rfl⟩) ⟨mm_B.blind, mm_recvL (q := (RX4, TX4, 7)) C hH.1 kl_0 (mm_e4 kd_0) rfl, mm_preL C hH.1 hA⟩ rfl rfl hl.1 rfl (lv_room (Nat.le_of_ble_eq_true rfl)) dL_aged_252 ⟨Nat.zero_le _, Nat.zero_le _⟩) (fun H locs hH => ?_)
                  refine lv_aload_n hx hb dL_aged_255 rfl (lv_at hl 2 rfl) ?_
                  refine lv_iload_n hx hb dL_aged_256 rfl (lv_at hl 0 rfl) ?_
                  obtain ⟨g69, h⟩ := mm_grn h
                  refine md_dld C hH g69 dL_aged_257 ?_
                  refine lv_icmp_ne (tgt := 279) hx hb dL_aged_258 (by decide) (fun c112 => ?_) (fun c112 => ?_)
                  · have h := mm_neg c112 h
                    have hl := lv_sub (l' := []) hl [] rfl
                    cases h
                  · have h := mm_pos c112 h
                    refine lv_aload_n hx hb dL_aged_261 rfl (lv_at hl 1 rfl) ?_
                    refine lv_iload_n hx hb dL_aged_262 rfl (lv_at hl 3 rfl) ?_
                    refine lv_iconst (v := 1) hx hb dL_aged_263 (by decide) ?_
                    obtain ⟨v118, e118, h⟩ := mm_bnd h
                    refine md_goi hH hA (va_runV (As := [.int a2, .int 1]) (rest := []) ⟨hx, hb, C.2.2.1, C.2.2.2.1, C.2.2.2.2.1⟩ (ct_X4_of l G T b z a2 1 x e118) (cwV 2 C.2.2.2.2.1 gL_aged_X4_of rfl rfl rfl df_X4_of ⟨Nat.le_of_ble_eq_true rfl, Nat.le_of_ble_eq_true rfl⟩) ⟨mm_B.blind, mm_recvL (q := (RX4, TX4, 7)) C hH.1 kl_0 (mm_e4 kd_0) rfl, mm_preL C hH.1 hA⟩ rfl rfl hl.1 rfl (lv_room (Nat.le_of_ble_eq_true rfl)) dL_aged_264 ⟨Nat.zero_le _, Nat.zero_le _⟩) (fun H locs hH => ?_)
                    refine lv_aload_n hx hb dL_aged_267 rfl (lv_at hl 2 rfl) ?_
                    refine lv_iload_n hx hb dL_aged_268 rfl (lv_at hl 0 rfl) ?_
                    refine lv_iconst (v := 1) hx hb dL_aged_269 (by decide) ?_
                    refine lv_iadd hx hb dL_aged_270 ?_
                    obtain ⟨g70, h⟩ := mm_grn h
                    refine md_dld C hH g70 dL_aged_271 ?_
                    refine lv_icmp_ne (tgt := 279) hx hb dL_aged_272 (by decide) (fun c113 => ?_) (fun c113 => ?_)
                    · have h := mm_neg c113 h
                      have hl := lv_sub (l' := []) hl [] rfl
                      cases h
                    · have h := mm_pos c113 h
                      have hl := lv_sub (l' := []) hl [] rfl
                      refine lv_iconst (v := 1) hx hb dL_aged_275 (by decide) ?_
                      refine lv_goto (tgt := 280) hx hb dL_aged_276 (by decide) ?_
                      exact mm_iretP C hH.1 hr hlk rfl h dL_aged_280
    · have h := mm_pos c82 h
      refine lv_aload_n hx hb dL_aged_59 rfl (lv_at hl 4 rfl) ?_
      refine lv_iload_n hx hb dL_aged_60 rfl (lv_at hl 2 rfl) ?_
      refine lv_iconst (v := 4) hx hb dL_aged_61 (by decide) ?_
      refine lv_iadd hx hb dL_aged_62 ?_
      obtain ⟨g71, h⟩ := mm_grn h
      refine md_dld C hH g71 dL_aged_63 ?_
      refine lv_iconst (v := 1) hx hb dL_aged_64 (by decide) ?_
      refine lv_iadd hx hb dL_aged_65 ?_
      refine lv_aload_n hx hb dL_aged_66 rfl (lv_at hl 3 rfl) ?_
      refine lv_bipush (v := 13) hx hb dL_aged_67 (by decide) ?_
      obtain ⟨v119, e119, h⟩ := mm_bnd h
      refine md_goi hH hA (va_runV (As := [.int 13]) (rest := [.int ((dd (Int32.toNatClampNeg (v1 + 4))) + 1)]) ⟨hx, hb, C.2.2.1, C.2.2.2.1, C.2.2.2.2.1⟩ (ct_X4_count l G T b z 13 x e119) (cwV 1 C.2.2.2.2.1 gL_aged_X4_count rfl rfl rfl df_X4_count ⟨Nat.le_of_ble_eq_true rfl, Nat.le_of_ble_eq_true rfl⟩) ⟨mm_B.blind, mm_recvL (q := (RX4, TX4, 7)) C hH.1 kl_0 (mm_e4 kd_0) rfl, mm_preL C hH.1 hA⟩ rfl rfl hl.1 rfl (lv_room (Nat.le_of_ble_eq_true rfl)) dL_aged_69 ⟨Nat.zero_le _, Nat.zero_le _⟩) (fun H locs hH => ?_)
      refine lv_icmp_lt (tgt := 79) hx hb dL_aged_72 (by decide) (fun c114 => ?_) (fun c114 => ?_)
      · have h := mm_pos c114 h
        refine lv_iconst (v := 0) hx hb dL_aged_79 (by decide) ?_
        refine lv_istore (lv' := [(6, .int 0), (5, .int v88), (4, .int 1), (3, .int v1), (0, .ref (b + 0)), (1, .ref ad), (2, .int a2)]) hx hb dL_aged_80 hl (by decide) rfl (fun ls hl => ?_)
        refine lv_aload_n hx hb dL_aged_82 rfl (lv_at hl 5 rfl) ?_
        refine lv_iload_n hx hb dL_aged_83 rfl (lv_at hl 3 rfl) ?_
        refine lv_iconst (v := 3) hx hb dL_aged_84 (by decide) ?_
        refine lv_iadd hx hb dL_aged_85 ?_
        obtain ⟨g72, h⟩ := mm_grn h
        refine md_dld C hH g72 dL_aged_86 ?_
        refine lv_iconst (v := 1) hx hb dL_aged_87 (by decide) ?_
        refine lv_icmp_ne (tgt := 111) hx hb dL_aged_88 (by decide) (fun c => absurd c82 c) (fun _ => ?_)
        refine lv_iload hx hb dL_aged_91 (lv_at hl 1 rfl) ?_
        refine lv_aload_n hx hb dL_aged_93 rfl (lv_at hl 4 rfl) ?_
        refine lv_bipush (v := 12) hx hb dL_aged_94 (by decide) ?_
        obtain ⟨v120, e120, h⟩ := mm_bnd h
        refine md_goi hH hA (va_runV (As := [.int 12]) (rest := [.int v88]) ⟨hx, hb, C.2.2.1, C.2.2.2.1, C.2.2.2.2.1⟩ (ct_X4_count l G T b z 12 x e120) (cwV 1 C.2.2.2.2.1 gL_aged_X4_count rfl rfl rfl df_X4_count ⟨Nat.le_of_ble_eq_true rfl, Nat.le_of_ble_eq_true rfl⟩) ⟨mm_B.blind, mm_recvL (q := (RX4, TX4, 7)) C hH.1 kl_0 (mm_e4 kd_0) rfl, mm_preL C hH.1 hA⟩ rfl rfl hl.1 rfl (lv_room (Nat.le_of_ble_eq_true rfl)) dL_aged_96 ⟨Nat.zero_le _, Nat.zero_le _⟩) (fun H locs hH => ?_)
        refine lv_icmp_lt (tgt := 107) hx hb dL_aged_99 (by decide) (fun c115 => ?_) (fun c115 => ?_)
        · have h := mm_pos c115 h
          have hl := lv_sub (l' := [(5, .int v88), (4, .int 1), (3, .int v1), (0, .ref (b + 0)), (1, .ref ad), (2, .int a2)]) hl [1, 2, 3, 4, 5, 6] rfl
          refine lv_iconst (v := 1) hx hb dL_aged_107 (by decide) ?_
          refine lv_goto (tgt := 112) hx hb dL_aged_108 (by decide) ?_
          refine lv_istore (lv' := [(7, .int 1), (5, .int v88), (4, .int 1), (3, .int v1), (0, .ref (b + 0)), (1, .ref ad), (2, .int a2)]) hx hb dL_aged_112 hl (by decide) rfl (fun ls hl => ?_)
          refine lv_iload hx hb dL_aged_114 (lv_at hl 0 rfl) ?_
          refine lv_if_eq (tgt := 141) hx hb dL_aged_116 (by decide) (fun c => absurd c (by decide)) (fun _ => ?_)
          refine lv_iload hx hb dL_aged_119 (lv_at hl 1 rfl) ?_
          refine lv_aload_n hx hb dL_aged_121 rfl (lv_at hl 4 rfl) ?_
          refine lv_bipush (v := 12) hx hb dL_aged_122 (by decide) ?_
          obtain ⟨v121, e121, h⟩ := mm_bnd h
          refine md_goi hH hA (va_runV (As := [.int 12]) (rest := [.int v88]) ⟨hx, hb, C.2.2.1, C.2.2.2.1, C.2.2.2.2.1⟩ (ct_X4_count l G T b z 12 x e121) (cwV 1 C.2.2.2.2.1 gL_aged_X4_count rfl rfl rfl df_X4_count ⟨Nat.le_of_ble_eq_true rfl, Nat.le_of_ble_eq_true rfl⟩) ⟨mm_B.blind, mm_recvL (q := (RX4, TX4, 7)) C hH.1 kl_0 (mm_e4 kd_0) rfl, mm_preL C hH.1 hA⟩ rfl rfl hl.1 rfl (lv_room (Nat.le_of_ble_eq_true rfl)) dL_aged_124 ⟨Nat.zero_le _, Nat.zero_le _⟩) (fun H locs hH => ?_)
          refine lv_icmp_lt (tgt := 141) hx hb dL_aged_127 (by decide) (fun c116 => ?_) (fun c116 => ?_)
          · have h := mm_pos c116 h
            refine lv_iload hx hb dL_aged_141 (lv_at hl 1 rfl) ?_
            refine lv_istore (lv' := [(5, .int v88), (7, .int 1), (4, .int 1), (3, .int v1), (0, .ref (b + 0)), (1, .ref ad), (2, .int a2)]) hx hb dL_aged_143 hl (by decide) rfl (fun ls hl => ?_)
            refine lv_aload_n hx hb dL_aged_145 rfl (lv_at hl 4 rfl) ?_
            refine lv_iload_n hx hb dL_aged_146 rfl (lv_at hl 6 rfl) ?_
            refine lv_iconst (v := 2) hx hb dL_aged_147 (by decide) ?_
            obtain ⟨v122, e122, h⟩ := mm_bnd h
            refine md_goi hH hA (va_runV (As := [.int a2, .int 2]) (rest := []) ⟨hx, hb, C.2.2.1, C.2.2.2.1, C.2.2.2.2.1⟩ (ct_X4_of l G T b z a2 2 x e122) (cwV 2 C.2.2.2.2.1 gL_aged_X4_of rfl rfl rfl df_X4_of ⟨Nat.le_of_ble_eq_true rfl, Nat.le_of_ble_eq_true rfl⟩) ⟨mm_B.blind, mm_recvL (q := (RX4, TX4, 7)) C hH.1 kl_0 (mm_e4 kd_0) rfl, mm_preL C hH.1 hA⟩ rfl rfl hl.1 rfl (lv_room (Nat.le_of_ble_eq_true rfl)) dL_aged_148 ⟨Nat.zero_le _, Nat.zero_le _⟩) (fun H locs hH => ?_)
            refine lv_iload hx hb dL_aged_151 (lv_at hl 0 rfl) ?_
            refine lv_icmp_ne (tgt := 208) hx hb dL_aged_153 (by decide) (fun c117 => ?_) (fun c117 => ?_)
            · have h := mm_neg c117 h
              have hl := lv_sub (l' := [(7, .int 1), (3, .int v1), (0, .ref (b + 0)), (1, .ref ad), (2, .int a2)]) hl [1, 3, 4, 5, 6] rfl
              cases h
            · have h := mm_pos c117 h
              have hl := lv_sub (l' := [(7, .int 1), (4, .int 1), (3, .int v1), (0, .ref (b + 0)), (1, .ref ad), (2, .int a2)]) hl [1, 2, 3, 4, 5, 6] rfl
              refine lv_aload_n hx hb dL_aged_156 rfl (lv_at hl 3 rfl) ?_
              refine lv_iload_n hx hb dL_aged_157 rfl (lv_at hl 5 rfl) ?_
              refine lv_iconst (v := 5) hx hb dL_aged_158 (by decide) ?_
              obtain ⟨v123, e123, h⟩ := mm_bnd h
              refine md_goi hH hA (va_runV (As := [.int a2, .int 5]) (rest := []) ⟨hx, hb, C.2.2.1, C.2.2.2.1, C.2.2.2.2.1⟩ (ct_X4_of l G T b z a2 5 x e123) (cwV 2 C.2.2.2.2.1 gL_aged_X4_of rfl rfl rfl df_X4_of ⟨Nat.le_of_ble_eq_true rfl, Nat.le_of_ble_eq_true rfl⟩) ⟨mm_B.blind, mm_recvL (q := (RX4, TX4, 7)) C hH.1 kl_0 (mm_e4 kd_0) rfl, mm_preL C hH.1 hA⟩ rfl rfl hl.1 rfl (lv_room (Nat.le_of_ble_eq_true rfl)) dL_aged_159 ⟨Nat.zero_le _, Nat.zero_le _⟩) (fun H locs hH => ?_)
              refine lv_iload hx hb dL_aged_162 (lv_at hl 1 rfl) ?_
              refine lv_if_eq (tgt := 171) hx hb dL_aged_164 (by decide) (fun c => absurd c (by decide)) (fun _ => ?_)
              have hl := lv_sub (l' := [(7, .int 1), (3, .int v1), (0, .ref (b + 0)), (1, .ref ad), (2, .int a2)]) hl [0, 2, 3, 4, 5] rfl
              refine lv_iconst (v := 0) hx hb dL_aged_167 (by decide) ?_
              refine lv_goto (tgt := 178) hx hb dL_aged_168 (by decide) ?_
              refine lv_icmp_ne (tgt := 208) hx hb dL_aged_178 (by decide) (fun c118 => ?_) (fun c118 => ?_)
              · have h := mm_neg c118 h
                cases h
              · have h := mm_pos c118 h
                refine lv_aload_n hx hb dL_aged_181 rfl (lv_at hl 2 rfl) ?_
                refine lv_iload_n hx hb dL_aged_182 rfl (lv_at hl 4 rfl) ?_
                refine lv_iconst (v := 3) hx hb dL_aged_183 (by decide) ?_
                obtain ⟨v124, e124, h⟩ := mm_bnd h
                refine md_goi hH hA (va_runV (As := [.int a2, .int 3]) (rest := []) ⟨hx, hb, C.2.2.1, C.2.2.2.1, C.2.2.2.2.1⟩ (ct_X4_of l G T b z a2 3 x e124) (cwV 2 C.2.2.2.2.1 gL_aged_X4_of rfl rfl rfl df_X4_of ⟨Nat.le_of_ble_eq_true rfl, Nat.le_of_ble_eq_true rfl⟩) ⟨mm_B.blind, mm_recvL (q := (RX4, TX4, 7)) C hH.1 kl_0 (mm_e4 kd_0) rfl, mm_preL C hH.1 hA⟩ rfl rfl hl.1 rfl (lv_room (Nat.le_of_ble_eq_true rfl)) dL_aged_184 ⟨Nat.zero_le _, Nat.zero_le _⟩) (fun H locs hH => ?_)
                refine lv_iload hx hb dL_aged_187 (lv_at hl 0 rfl) ?_
                refine lv_if_eq (tgt := 196) hx hb dL_aged_189 (by decide) (fun c => absurd c (by decide)) (fun _ => ?_)
                refine lv_iconst (v := 0) hx hb dL_aged_192 (by decide) ?_
                refine lv_goto (tgt := 201) hx hb dL_aged_193 (by decide) ?_
                refine lv_icmp_ne (tgt := 208) hx hb dL_aged_201 (by decide) (fun c119 => ?_) (fun c119 => ?_)
                · have h := mm_neg c119 h
                  cases h
                · have h := mm_pos c119 h
                  refine lv_iconst (v := 1) hx hb dL_aged_204 (by decide) ?_
                  refine lv_goto (tgt := 209) hx hb dL_aged_205 (by decide) ?_
                  refine lv_istore (lv' := [(8, .int 1), (7, .int 1), (3, .int v1), (0, .ref (b + 0)), (1, .ref ad), (2, .int a2)]) hx hb dL_aged_209 hl (by decide) rfl (fun ls hl => ?_)
                  refine lv_iload hx hb dL_aged_211 (lv_at hl 0 rfl) ?_
                  refine lv_if_eq (tgt := 279) hx hb dL_aged_213 (by decide) (fun c => absurd c (by decide)) (fun _ => ?_)
                  have hl := lv_sub (l' := [(7, .int 1), (3, .int v1), (0, .ref (b + 0)), (1, .ref ad), (2, .int a2)]) hl [1, 2, 3, 4, 5] rfl
                  refine lv_aload_n hx hb dL_aged_216 rfl (lv_at hl 2 rfl) ?_
                  refine lv_iload_n hx hb dL_aged_217 rfl (lv_at hl 4 rfl) ?_
                  refine lv_iconst (v := 4) hx hb dL_aged_218 (by decide) ?_
                  obtain ⟨v125, e125, h⟩ := mm_bnd h
                  refine md_goi hH hA (va_runV (As := [.int a2, .int 4]) (rest := []) ⟨hx, hb, C.2.2.1, C.2.2.2.1, C.2.2.2.2.1⟩ (ct_X4_of l G T b z a2 4 x e125) (cwV 2 C.2.2.2.2.1 gL_aged_X4_of rfl rfl rfl df_X4_of ⟨Nat.le_of_ble_eq_true rfl, Nat.le_of_ble_eq_true rfl⟩) ⟨mm_B.blind, mm_recvL (q := (RX4, TX4, 7)) C hH.1 kl_0 (mm_e4 kd_0) rfl, mm_preL C hH.1 hA⟩ rfl rfl hl.1 rfl (lv_room (Nat.le_of_ble_eq_true rfl)) dL_aged_219 ⟨Nat.zero_le _, Nat.zero_le _⟩) (fun H locs hH => ?_)
                  refine lv_iload hx hb dL_aged_222 (lv_at hl 0 rfl) ?_
                  refine lv_if_ne (tgt := 235) hx hb dL_aged_224 (by decide) (fun _ => ?_) (fun c => absurd c (by decide))
                  have hl := lv_sub (l' := [(3, .int v1), (0, .ref (b + 0)), (1, .ref ad), (2, .int a2)]) hl [1, 2, 3, 4] rfl
                  refine lv_iconst (v := 0) hx hb dL_aged_235 (by decide) ?_
                  refine lv_goto (tgt := 246) hx hb dL_aged_236 (by decide) ?_
                  refine lv_icmp_ne (tgt := 279) hx hb dL_aged_246 (by decide) (fun c120 => ?_) (fun c120 => ?_)
                  · have h := mm_neg c120 h
                    have hl := lv_sub (l' := []) hl [] rfl
                    cases h
                  · have h := mm_pos c120 h
                    refine lv_aload_n hx hb dL_aged_249 rfl (lv_at hl 1 rfl) ?_
                    refine lv_iload_n hx hb dL_aged_250 rfl (lv_at hl 3 rfl) ?_
                    refine lv_iconst (v := 0) hx hb dL_aged_251 (by decide) ?_
                    obtain ⟨v126, e126, h⟩ := mm_bnd h
                    refine md_goi hH hA (va_runV (As := [.int a2, .int 0]) (rest := []) ⟨hx, hb, C.2.2.1, C.2.2.2.1, C.2.2.2.2.1⟩ (ct_X4_of l G T b z a2 0 x e126) (cwV 2 C.2.2.2.2.1 gL_aged_X4_of rfl rfl rfl df_X4_of ⟨Nat.le_of_ble_eq_true rfl, Nat.le_of_ble_eq_true rfl⟩) ⟨mm_B.blind, mm_recvL (q := (RX4, TX4, 7)) C hH.1 kl_0 (mm_e4 kd_0) rfl, mm_preL C hH.1 hA⟩ rfl rfl hl.1 rfl (lv_room (Nat.le_of_ble_eq_true rfl)) dL_aged_252 ⟨Nat.zero_le _, Nat.zero_le _⟩) (fun H locs hH => ?_)
                    refine lv_aload_n hx hb dL_aged_255 rfl (lv_at hl 2 rfl) ?_
                    refine lv_iload_n hx hb dL_aged_256 rfl (lv_at hl 0 rfl) ?_
                    obtain ⟨g73, h⟩ := mm_grn h
                    refine md_dld C hH g73 dL_aged_257 ?_
                    refine lv_icmp_ne (tgt := 279) hx hb dL_aged_258 (by decide) (fun c121 => ?_) (fun c121 => ?_)
                    · have h := mm_neg c121 h
                      have hl := lv_sub (l' := []) hl [] rfl
                      cases h
                    · have h := mm_pos c121 h
                      refine lv_aload_n hx hb dL_aged_261 rfl (lv_at hl 1 rfl) ?_
                      refine lv_iload_n hx hb dL_aged_262 rfl (lv_at hl 3 rfl) ?_
                      refine lv_iconst (v := 1) hx hb dL_aged_263 (by decide) ?_
                      obtain ⟨v127, e127, h⟩ := mm_bnd h
                      refine md_goi hH hA (va_runV (As := [.int a2, .int 1]) (rest := []) ⟨hx, hb, C.2.2.1, C.2.2.2.1, C.2.2.2.2.1⟩ (ct_X4_of l G T b z a2 1 x e127) (cwV 2 C.2.2.2.2.1 gL_aged_X4_of rfl rfl rfl df_X4_of ⟨Nat.le_of_ble_eq_true rfl, Nat.le_of_ble_eq_true rfl⟩) ⟨mm_B.blind, mm_recvL (q := (RX4, TX4, 7)) C hH.1 kl_0 (mm_e4 kd_0) rfl, mm_preL C hH.1 hA⟩ rfl rfl hl.1 rfl (lv_room (Nat.le_of_ble_eq_true rfl)) dL_aged_264 ⟨Nat.zero_le _, Nat.zero_le _⟩) (fun H locs hH => ?_)
                      refine lv_aload_n hx hb dL_aged_267 rfl (lv_at hl 2 rfl) ?_
                      refine lv_iload_n hx hb dL_aged_268 rfl (lv_at hl 0 rfl) ?_
                      refine lv_iconst (v := 1) hx hb dL_aged_269 (by decide) ?_
                      refine lv_iadd hx hb dL_aged_270 ?_
                      obtain ⟨g74, h⟩ := mm_grn h
                      refine md_dld C hH g74 dL_aged_271 ?_
                      refine lv_icmp_ne (tgt := 279) hx hb dL_aged_272 (by decide) (fun c122 => ?_) (fun c122 => ?_)
                      · have h := mm_neg c122 h
                        have hl := lv_sub (l' := []) hl [] rfl
                        cases h
                      · have h := mm_pos c122 h
                        have hl := lv_sub (l' := []) hl [] rfl
                        refine lv_iconst (v := 1) hx hb dL_aged_275 (by decide) ?_
                        refine lv_goto (tgt := 280) hx hb dL_aged_276 (by decide) ?_
                        exact mm_iretP C hH.1 hr hlk rfl h dL_aged_280
          · have h := mm_neg c116 h
            have hl := lv_sub (l' := [(7, .int 1), (4, .int 1), (3, .int v1), (0, .ref (b + 0)), (1, .ref ad), (2, .int a2)]) hl [0, 2, 3, 4, 5, 6] rfl
            refine lv_aload_n hx hb dL_aged_130 rfl (lv_at hl 3 rfl) ?_
            refine lv_bipush (v := 12) hx hb dL_aged_131 (by decide) ?_
            obtain ⟨v128, e128, h⟩ := mm_bnd h
            refine md_goi hH hA (va_runV (As := [.int 12]) (rest := []) ⟨hx, hb, C.2.2.1, C.2.2.2.1, C.2.2.2.2.1⟩ (ct_X4_count l G T b z 12 x e128) (cwV 1 C.2.2.2.2.1 gL_aged_X4_count rfl rfl rfl df_X4_count ⟨Nat.le_of_ble_eq_true rfl, Nat.le_of_ble_eq_true rfl⟩) ⟨mm_B.blind, mm_recvL (q := (RX4, TX4, 7)) C hH.1 kl_0 (mm_e4 kd_0) rfl, mm_preL C hH.1 hA⟩ rfl rfl hl.1 rfl (lv_room (Nat.le_of_ble_eq_true rfl)) dL_aged_133 ⟨Nat.zero_le _, Nat.zero_le _⟩) (fun H locs hH => ?_)
            refine lv_iconst (v := 1) hx hb dL_aged_136 (by decide) ?_
            refine lv_isub hx hb dL_aged_137 ?_
            refine lv_goto (tgt := 143) hx hb dL_aged_138 (by decide) ?_
            obtain ⟨v129, e129, h⟩ := mm_bnd h
            refine mm_nmi e129 ?_
            refine lv_istore (lv' := [(5, .int v129), (7, .int 1), (4, .int 1), (3, .int v1), (0, .ref (b + 0)), (1, .ref ad), (2, .int a2)]) hx hb dL_aged_143 hl (by decide) rfl (fun ls hl => ?_)
            refine lv_aload_n hx hb dL_aged_145 rfl (lv_at hl 4 rfl) ?_
            refine lv_iload_n hx hb dL_aged_146 rfl (lv_at hl 6 rfl) ?_
            refine lv_iconst (v := 2) hx hb dL_aged_147 (by decide) ?_
            obtain ⟨v130, e130, h⟩ := mm_bnd h
            refine md_goi hH hA (va_runV (As := [.int a2, .int 2]) (rest := []) ⟨hx, hb, C.2.2.1, C.2.2.2.1, C.2.2.2.2.1⟩ (ct_X4_of l G T b z a2 2 x e130) (cwV 2 C.2.2.2.2.1 gL_aged_X4_of rfl rfl rfl df_X4_of ⟨Nat.le_of_ble_eq_true rfl, Nat.le_of_ble_eq_true rfl⟩) ⟨mm_B.blind, mm_recvL (q := (RX4, TX4, 7)) C hH.1 kl_0 (mm_e4 kd_0) rfl, mm_preL C hH.1 hA⟩ rfl rfl hl.1 rfl (lv_room (Nat.le_of_ble_eq_true rfl)) dL_aged_148 ⟨Nat.zero_le _, Nat.zero_le _⟩) (fun H locs hH => ?_)
            refine lv_iload hx hb dL_aged_151 (lv_at hl 0 rfl) ?_
            refine lv_icmp_ne (tgt := 208) hx hb dL_aged_153 (by decide) (fun c123 => ?_) (fun c123 => ?_)
            · have h := mm_neg c123 h
              have hl := lv_sub (l' := [(7, .int 1), (3, .int v1), (0, .ref (b + 0)), (1, .ref ad), (2, .int a2)]) hl [1, 3, 4, 5, 6] rfl
              cases h
            · have h := mm_pos c123 h
              have hl := lv_sub (l' := [(7, .int 1), (4, .int 1), (3, .int v1), (0, .ref (b + 0)), (1, .ref ad), (2, .int a2)]) hl [1, 2, 3, 4, 5, 6] rfl
              refine lv_aload_n hx hb dL_aged_156 rfl (lv_at hl 3 rfl) ?_
              refine lv_iload_n hx hb dL_aged_157 rfl (lv_at hl 5 rfl) ?_
              refine lv_iconst (v := 5) hx hb dL_aged_158 (by decide) ?_
              obtain ⟨v131, e131, h⟩ := mm_bnd h
              refine md_goi hH hA (va_runV (As := [.int a2, .int 5]) (rest := []) ⟨hx, hb, C.2.2.1, C.2.2.2.1, C.2.2.2.2.1⟩ (ct_X4_of l G T b z a2 5 x e131) (cwV 2 C.2.2.2.2.1 gL_aged_X4_of rfl rfl rfl df_X4_of ⟨Nat.le_of_ble_eq_true rfl, Nat.le_of_ble_eq_true rfl⟩) ⟨mm_B.blind, mm_recvL (q := (RX4, TX4, 7)) C hH.1 kl_0 (mm_e4 kd_0) rfl, mm_preL C hH.1 hA⟩ rfl rfl hl.1 rfl (lv_room (Nat.le_of_ble_eq_true rfl)) dL_aged_159 ⟨Nat.zero_le _, Nat.zero_le _⟩) (fun H locs hH => ?_)
              refine lv_iload hx hb dL_aged_162 (lv_at hl 1 rfl) ?_
              refine lv_if_eq (tgt := 171) hx hb dL_aged_164 (by decide) (fun c => absurd c (by decide)) (fun _ => ?_)
              have hl := lv_sub (l' := [(7, .int 1), (3, .int v1), (0, .ref (b + 0)), (1, .ref ad), (2, .int a2)]) hl [0, 2, 3, 4, 5] rfl
              refine lv_iconst (v := 0) hx hb dL_aged_167 (by decide) ?_
              refine lv_goto (tgt := 178) hx hb dL_aged_168 (by decide) ?_
              refine lv_icmp_ne (tgt := 208) hx hb dL_aged_178 (by decide) (fun c124 => ?_) (fun c124 => ?_)
              · have h := mm_neg c124 h
                cases h
              · have h := mm_pos c124 h
                refine lv_aload_n hx hb dL_aged_181 rfl (lv_at hl 2 rfl) ?_
                refine lv_iload_n hx hb dL_aged_182 rfl (lv_at hl 4 rfl) ?_
                refine lv_iconst (v := 3) hx hb dL_aged_183 (by decide) ?_
                obtain ⟨v132, e132, h⟩ := mm_bnd h
                refine md_goi hH hA (va_runV (As := [.int a2, .int 3]) (rest := []) ⟨hx, hb, C.2.2.1, C.2.2.2.1, C.2.2.2.2.1⟩ (ct_X4_of l G T b z a2 3 x e132) (cwV 2 C.2.2.2.2.1 gL_aged_X4_of rfl rfl rfl df_X4_of ⟨Nat.le_of_ble_eq_true rfl, Nat.le_of_ble_eq_true rfl⟩) ⟨mm_B.blind, mm_recvL (q := (RX4, TX4, 7)) C hH.1 kl_0 (mm_e4 kd_0) rfl, mm_preL C hH.1 hA⟩ rfl rfl hl.1 rfl (lv_room (Nat.le_of_ble_eq_true rfl)) dL_aged_184 ⟨Nat.zero_le _, Nat.zero_le _⟩) (fun H locs hH => ?_)
                refine lv_iload hx hb dL_aged_187 (lv_at hl 0 rfl) ?_
                refine lv_if_eq (tgt := 196) hx hb dL_aged_189 (by decide) (fun c => absurd c (by decide)) (fun _ => ?_)
                refine lv_iconst (v := 0) hx hb dL_aged_192 (by decide) ?_
                refine lv_goto (tgt := 201) hx hb dL_aged_193 (by decide) ?_
                refine lv_icmp_ne (tgt := 208) hx hb dL_aged_201 (by decide) (fun c125 => ?_) (fun c125 => ?_)
                · have h := mm_neg c125 h
                  cases h
                · have h := mm_pos c125 h
                  refine lv_iconst (v := 1) hx hb dL_aged_204 (by decide) ?_
                  refine lv_goto (tgt := 209) hx hb dL_aged_205 (by decide) ?_
                  refine lv_istore (lv' := [(8, .int 1), (7, .int 1), (3, .int v1), (0, .ref (b + 0)), (1, .ref ad), (2, .int a2)]) hx hb dL_aged_209 hl (by decide) rfl (fun ls hl => ?_)
                  refine lv_iload hx hb dL_aged_211 (lv_at hl 0 rfl) ?_
                  refine lv_if_eq (tgt := 279) hx hb dL_aged_213 (by decide) (fun c => absurd c (by decide)) (fun _ => ?_)
                  have hl := lv_sub (l' := [(7, .int 1), (3, .int v1), (0, .ref (b + 0)), (1, .ref ad), (2, .int a2)]) hl [1, 2, 3, 4, 5] rfl
                  refine lv_aload_n hx hb dL_aged_216 rfl (lv_at hl 2 rfl) ?_
                  refine lv_iload_n hx hb dL_aged_217 rfl (lv_at hl 4 rfl) ?_
                  refine lv_iconst (v := 4) hx hb dL_aged_218 (by decide) ?_
                  obtain ⟨v133, e133, h⟩ := mm_bnd h
                  refine md_goi hH hA (va_runV (As := [.int a2, .int 4]) (rest := []) ⟨hx, hb, C.2.2.1, C.2.2.2.1, C.2.2.2.2.1⟩ (ct_X4_of l G T b z a2 4 x e133) (cwV 2 C.2.2.2.2.1 gL_aged_X4_of rfl rfl rfl df_X4_of ⟨Nat.le_of_ble_eq_true rfl, Nat.le_of_ble_eq_true rfl⟩) ⟨mm_B.blind, mm_recvL (q := (RX4, TX4, 7)) C hH.1 kl_0 (mm_e4 kd_0) rfl, mm_preL C hH.1 hA⟩ rfl rfl hl.1 rfl (lv_room (Nat.le_of_ble_eq_true rfl)) dL_aged_219 ⟨Nat.zero_le _, Nat.zero_le _⟩) (fun H locs hH => ?_)
                  refine lv_iload hx hb dL_aged_222 (lv_at hl 0 rfl) ?_
                  refine lv_if_ne (tgt := 235) hx hb dL_aged_224 (by decide) (fun _ => ?_) (fun c => absurd c (by decide))
                  have hl := lv_sub (l' := [(3, .int v1), (0, .ref (b + 0)), (1, .ref ad), (2, .int a2)]) hl [1, 2, 3, 4] rfl
                  refine lv_iconst (v := 0) hx hb dL_aged_235 (by decide) ?_
                  refine lv_goto (tgt := 246) hx hb dL_aged_236 (by decide) ?_
                  refine lv_icmp_ne (tgt := 279) hx hb dL_aged_246 (by decide) (fun c126 => ?_) (fun c126 => ?_)
                  · have h := mm_neg c126 h
                    have hl := lv_sub (l' := []) hl [] rfl
                    cases h
                  · have h := mm_pos c126 h
                    refine lv_aload_n hx hb dL_aged_249 rfl (lv_at hl 1 rfl) ?_
                    refine lv_iload_n hx hb dL_aged_250 rfl (lv_at hl 3 rfl) ?_
                    refine lv_iconst (v := 0) hx hb dL_aged_251 (by decide) ?_
                    obtain ⟨v134, e134, h⟩ := mm_bnd h
                    refine md_goi hH hA (va_runV (As := [.int a2, .int 0]) (rest := []) ⟨hx, hb, C.2.2.1, C.2.2.2.1, C.2.2.2.2.1⟩ (ct_X4_of l G T b z a2 0 x e134) (cwV 2 C.2.2.2.2.1 gL_aged_X4_of rfl rfl rfl df_X4_of ⟨Nat.le_of_ble_eq_true rfl, Nat.le_of_ble_eq_true rfl⟩) ⟨mm_B.blind, mm_recvL (q := (RX4, TX4, 7)) C hH.1 kl_0 (mm_e4 kd_0) rfl, mm_preL C hH.1 hA⟩ rfl rfl hl.1 rfl (lv_room (Nat.le_of_ble_eq_true rfl)) dL_aged_252 ⟨Nat.zero_le _, Nat.zero_le _⟩) (fun H locs hH => ?_)
                    refine lv_aload_n hx hb dL_aged_255 rfl (lv_at hl 2 rfl) ?_
                    refine lv_iload_n hx hb dL_aged_256 rfl (lv_at hl 0 rfl) ?_
                    obtain ⟨g75, h⟩ := mm_grn h
                    refine md_dld C hH g75 dL_aged_257 ?_
                    refine lv_icmp_ne (tgt := 279) hx hb dL_aged_258 (by decide) (fun c127 => ?_) (fun c127 => ?_)
                    · have h := mm_neg c127 h
                      have hl := lv_sub (l' := []) hl [] rfl
                      cases h
                    · have h := mm_pos c127 h
                      refine lv_aload_n hx hb dL_aged_261 rfl (lv_at hl 1 rfl) ?_
                      refine lv_iload_n hx hb dL_aged_262 rfl (lv_at hl 3 rfl) ?_
                      refine lv_iconst (v := 1) hx hb dL_aged_263 (by decide) ?_
                      obtain ⟨v135, e135, h⟩ := mm_bnd h
                      refine md_goi hH hA (va_runV (As := [.int a2, .int 1]) (rest := []) ⟨hx, hb, C.2.2.1, C.2.2.2.1, C.2.2.2.2.1⟩ (ct_X4_of l G T b z a2 1 x e135) (cwV 2 C.2.2.2.2.1 gL_aged_X4_of rfl rfl rfl df_X4_of ⟨Nat.le_of_ble_eq_true rfl, Nat.le_of_ble_eq_true rfl⟩) ⟨mm_B.blind, mm_recvL (q := (RX4, TX4, 7)) C hH.1 kl_0 (mm_e4 kd_0) rfl, mm_preL C hH.1 hA⟩ rfl rfl hl.1 rfl (lv_room (Nat.le_of_ble_eq_true rfl)) dL_aged_264 ⟨Nat.zero_le _, Nat.zero_le _⟩) (fun H locs hH => ?_)
                      refine lv_aload_n hx hb dL_aged_267 rfl (lv_at hl 2 rfl) ?_
                      refine lv_iload_n hx hb dL_aged_268 rfl (lv_at hl 0 rfl) ?_
                      refine lv_iconst (v := 1) hx hb dL_aged_269 (by decide) ?_
                      refine lv_iadd hx hb dL_aged_270 ?_
                      obtain ⟨g76, h⟩ := mm_grn h
                      refine md_dld C hH g76 dL_aged_271 ?_
                      refine lv_icmp_ne (tgt := 279) hx hb dL_aged_272 (by decide) (fun c128 => ?_) (fun c128 => ?_)
                      · have h := mm_neg c128 h
                        have hl := lv_sub (l' := []) hl [] rfl
                        cases h
                      · have h := mm_pos c128 h
                        have hl := lv_sub (l' := []) hl [] rfl
                        refine lv_iconst (v := 1) hx hb dL_aged_275 (by decide) ?_
                        refine lv_goto (tgt := 280) hx hb dL_aged_276 (by decide) ?_
                        exact mm_iretP C hH.1 hr hlk rfl h dL_aged_280
        · have h := mm_neg c115 h
          refine lv_iload hx hb dL_aged_102 (lv_at hl 0 rfl) ?_
          refine lv_if_eq (tgt := 111) hx hb dL_aged_104 (by decide) (fun _ => ?_) (fun c => absurd (by decide) c)
          have hl := lv_sub (l' := [(5, .int v88), (4, .int 1), (3, .int v1), (0, .ref (b + 0)), (1, .ref ad), (2, .int a2)]) hl [1, 2, 3, 4, 5, 6] rfl
          refine lv_iconst (v := 0) hx hb dL_aged_111 (by decide) ?_
          refine lv_istore (lv' := [(7, .int 0), (5, .int v88), (4, .int 1), (3, .int v1), (0, .ref (b + 0)), (1, .ref ad), (2, .int a2)]) hx hb dL_aged_112 hl (by decide) rfl (fun ls hl => ?_)
          refine lv_iload hx hb dL_aged_114 (lv_at hl 0 rfl) ?_
          refine lv_if_eq (tgt := 141) hx hb dL_aged_116 (by decide) (fun _ => ?_) (fun c => absurd (by decide) c)
          refine lv_iload hx hb dL_aged_141 (lv_at hl 1 rfl) ?_
          refine lv_istore (lv' := [(5, .int v88), (7, .int 0), (4, .int 1), (3, .int v1), (0, .ref (b + 0)), (1, .ref ad), (2, .int a2)]) hx hb dL_aged_143 hl (by decide) rfl (fun ls hl => ?_)
          refine lv_aload_n hx hb dL_aged_145 rfl (lv_at hl 4 rfl) ?_
          refine lv_iload_n hx hb dL_aged_146 rfl (lv_at hl 6 rfl) ?_
          refine lv_iconst (v := 2) hx hb dL_aged_147 (by decide) ?_
          obtain ⟨v136, e136, h⟩ := mm_bnd h
          refine md_goi hH hA (va_runV (As := [.int a2, .int 2]) (rest := []) ⟨hx, hb, C.2.2.1, C.2.2.2.1, C.2.2.2.2.1⟩ (ct_X4_of l G T b z a2 2 x e136) (cwV 2 C.2.2.2.2.1 gL_aged_X4_of rfl rfl rfl df_X4_of ⟨Nat.le_of_ble_eq_true rfl, Nat.le_of_ble_eq_true rfl⟩) ⟨mm_B.blind, mm_recvL (q := (RX4, TX4, 7)) C hH.1 kl_0 (mm_e4 kd_0) rfl, mm_preL C hH.1 hA⟩ rfl rfl hl.1 rfl (lv_room (Nat.le_of_ble_eq_true rfl)) dL_aged_148 ⟨Nat.zero_le _, Nat.zero_le _⟩) (fun H locs hH => ?_)
          refine lv_iload hx hb dL_aged_151 (lv_at hl 0 rfl) ?_
          refine lv_icmp_ne (tgt := 208) hx hb dL_aged_153 (by decide) (fun c129 => ?_) (fun c129 => ?_)
          · have h := mm_neg c129 h
            have hl := lv_sub (l' := [(7, .int 0), (3, .int v1), (0, .ref (b + 0)), (1, .ref ad), (2, .int a2)]) hl [1, 3, 4, 5, 6] rfl
            cases h
          · have h := mm_pos c129 h
            have hl := lv_sub (l' := [(7, .int 0), (4, .int 1), (3, .int v1), (0, .ref (b + 0)), (1, .ref ad), (2, .int a2)]) hl [1, 2, 3, 4, 5, 6] rfl
            refine lv_aload_n hx hb dL_aged_156 rfl (lv_at hl 3 rfl) ?_
            refine lv_iload_n hx hb dL_aged_157 rfl (lv_at hl 5 rfl) ?_
            refine lv_iconst (v := 5) hx hb dL_aged_158 (by decide) ?_
            obtain ⟨v137, e137, h⟩ := mm_bnd h
            refine md_goi hH hA (va_runV (As := [.int a2, .int 5]) (rest := []) ⟨hx, hb, C.2.2.1, C.2.2.2.1, C.2.2.2.2.1⟩ (ct_X4_of l G T b z a2 5 x e137) (cwV 2 C.2.2.2.2.1 gL_aged_X4_of rfl rfl rfl df_X4_of ⟨Nat.le_of_ble_eq_true rfl, Nat.le_of_ble_eq_true rfl⟩) ⟨mm_B.blind, mm_recvL (q := (RX4, TX4, 7)) C hH.1 kl_0 (mm_e4 kd_0) rfl, mm_preL C hH.1 hA⟩ rfl rfl hl.1 rfl (lv_room (Nat.le_of_ble_eq_true rfl)) dL_aged_159 ⟨Nat.zero_le _, Nat.zero_le _⟩) (fun H locs hH => ?_)
            refine lv_iload hx hb dL_aged_162 (lv_at hl 1 rfl) ?_
            refine lv_if_eq (tgt := 171) hx hb dL_aged_164 (by decide) (fun c => absurd c (by decide)) (fun _ => ?_)
            have hl := lv_sub (l' := [(7, .int 0), (3, .int v1), (0, .ref (b + 0)), (1, .ref ad), (2, .int a2)]) hl [0, 2, 3, 4, 5] rfl
            refine lv_iconst (v := 0) hx hb dL_aged_167 (by decide) ?_
            refine lv_goto (tgt := 178) hx hb dL_aged_168 (by decide) ?_
            refine lv_icmp_ne (tgt := 208) hx hb dL_aged_178 (by decide) (fun c130 => ?_) (fun c130 => ?_)
            · have h := mm_neg c130 h
              cases h
            · have h := mm_pos c130 h
              refine lv_aload_n hx hb dL_aged_181 rfl (lv_at hl 2 rfl) ?_
              refine lv_iload_n hx hb dL_aged_182 rfl (lv_at hl 4 rfl) ?_
              refine lv_iconst (v := 3) hx hb dL_aged_183 (by decide) ?_
              obtain ⟨v138, e138, h⟩ := mm_bnd h
              refine md_goi hH hA (va_runV (As := [.int a2, .int 3]) (rest := []) ⟨hx, hb, C.2.2.1, C.2.2.2.1, C.2.2.2.2.1⟩ (ct_X4_of l G T b z a2 3 x e138) (cwV 2 C.2.2.2.2.1 gL_aged_X4_of rfl rfl rfl df_X4_of ⟨Nat.le_of_ble_eq_true rfl, Nat.le_of_ble_eq_true rfl⟩) ⟨mm_B.blind, mm_recvL (q := (RX4, TX4, 7)) C hH.1 kl_0 (mm_e4 kd_0) rfl, mm_preL C hH.1 hA⟩ rfl rfl hl.1 rfl (lv_room (Nat.le_of_ble_eq_true rfl)) dL_aged_184 ⟨Nat.zero_le _, Nat.zero_le _⟩) (fun H locs hH => ?_)
              refine lv_iload hx hb dL_aged_187 (lv_at hl 0 rfl) ?_
              refine lv_if_eq (tgt := 196) hx hb dL_aged_189 (by decide) (fun _ => ?_) (fun c => absurd (by decide) c)
              refine lv_aload_n hx hb dL_aged_196 rfl (lv_at hl 3 rfl) ?_
              refine lv_iload_n hx hb dL_aged_197 rfl (lv_at hl 1 rfl) ?_
              refine lv_iconst (v := 3) hx hb dL_aged_198 (by decide) ?_
              refine lv_iadd hx hb dL_aged_199 ?_
              obtain ⟨g77, h⟩ := mm_grn h
              refine md_dld C hH g77 dL_aged_200 ?_
              refine lv_icmp_ne (tgt := 208) hx hb dL_aged_201 (by decide) (fun c131 => ?_) (fun c131 => ?_)
              · have h := mm_neg c131 h
                cases h
              · have h := mm_pos c131 h
                refine lv_iconst (v := 1) hx hb dL_aged_204 (by decide) ?_
                refine lv_goto (tgt := 209) hx hb dL_aged_205 (by decide) ?_
                refine lv_istore (lv' := [(8, .int 1), (7, .int 0), (3, .int v1), (0, .ref (b + 0)), (1, .ref ad), (2, .int a2)]) hx hb dL_aged_209 hl (by decide) rfl (fun ls hl => ?_)
                refine lv_iload hx hb dL_aged_211 (lv_at hl 0 rfl) ?_
                refine lv_if_eq (tgt := 279) hx hb dL_aged_213 (by decide) (fun c => absurd c (by decide)) (fun _ => ?_)
                have hl := lv_sub (l' := [(7, .int 0), (3, .int v1), (0, .ref (b + 0)), (1, .ref ad), (2, .int a2)]) hl [1, 2, 3, 4, 5] rfl
                refine lv_aload_n hx hb dL_aged_216 rfl (lv_at hl 2 rfl) ?_
                refine lv_iload_n hx hb dL_aged_217 rfl (lv_at hl 4 rfl) ?_
                refine lv_iconst (v := 4) hx hb dL_aged_218 (by decide) ?_
                obtain ⟨v139, e139, h⟩ := mm_bnd h
                refine md_goi hH hA (va_runV (As := [.int a2, .int 4]) (rest := []) ⟨hx, hb, C.2.2.1, C.2.2.2.1, C.2.2.2.2.1⟩ (ct_X4_of l G T b z a2 4 x e139) (cwV 2 C.2.2.2.2.1 gL_aged_X4_of rfl rfl rfl df_X4_of ⟨Nat.le_of_ble_eq_true rfl, Nat.le_of_ble_eq_true rfl⟩) ⟨mm_B.blind, mm_recvL (q := (RX4, TX4, 7)) C hH.1 kl_0 (mm_e4 kd_0) rfl, mm_preL C hH.1 hA⟩ rfl rfl hl.1 rfl (lv_room (Nat.le_of_ble_eq_true rfl)) dL_aged_219 ⟨Nat.zero_le _, Nat.zero_le _⟩) (fun H locs hH => ?_)
                refine lv_iload hx hb dL_aged_222 (lv_at hl 0 rfl) ?_
                refine lv_if_ne (tgt := 235) hx hb dL_aged_224 (by decide) (fun c => absurd (by decide) c) (fun _ => ?_)
                have hl := lv_sub (l' := [(3, .int v1), (0, .ref (b + 0)), (1, .ref ad), (2, .int a2)]) hl [1, 2, 3, 4] rfl
                refine lv_aload_n hx hb dL_aged_227 rfl (lv_at hl 2 rfl) ?_
                refine lv_iload_n hx hb dL_aged_228 rfl (lv_at hl 0 rfl) ?_
                refine lv_iconst (v := 3) hx hb dL_aged_229 (by decide) ?_
                refine lv_iadd hx hb dL_aged_230 ?_
                obtain ⟨g78, h⟩ := mm_grn h
                refine md_dld C hH g78 dL_aged_231 ?_
                refine lv_if_ne (tgt := 239) hx hb dL_aged_232 (by decide) (fun _ => ?_) (fun c => absurd (c82.symm.trans c) (by decide))
                refine lv_aload_n hx hb dL_aged_239 rfl (lv_at hl 2 rfl) ?_
                refine lv_iload_n hx hb dL_aged_240 rfl (lv_at hl 0 rfl) ?_
                refine lv_iconst (v := 4) hx hb dL_aged_241 (by decide) ?_
                refine lv_iadd hx hb dL_aged_242 ?_
                obtain ⟨g79, h⟩ := mm_grn h
                refine md_dld C hH g79 dL_aged_243 ?_
                refine lv_iconst (v := 1) hx hb dL_aged_244 (by decide) ?_
                refine lv_iadd hx hb dL_aged_245 ?_
                refine lv_icmp_ne (tgt := 279) hx hb dL_aged_246 (by decide) (fun c132 => ?_) (fun c132 => ?_)
                · have h := mm_neg c132 h
                  have hl := lv_sub (l' := []) hl [] rfl
                  cases h
                · have h := mm_pos c132 h
                  refine lv_aload_n hx hb dL_aged_249 rfl (lv_at hl 1 rfl) ?_
                  refine lv_iload_n hx hb dL_aged_250 rfl (lv_at hl 3 rfl) ?_
                  refine lv_iconst (v := 0) hx hb dL_aged_251 (by decide) ?_
                  obtain ⟨v140, e140, h⟩ := mm_bnd h
                  refine md_goi hH hA (va_runV (As := [.int a2, .int 0]) (rest := []) ⟨hx, hb, C.2.2.1, C.2.2.2.1, C.2.2.2.2.1⟩ (ct_X4_of l G T b z a2 0 x e140) (cwV 2 C.2.2.2.2.1 gL_aged_X4_of rfl rfl rfl df_X4_of ⟨Nat.le_of_ble_eq_true rfl, Nat.le_of_ble_eq_true rfl⟩) ⟨mm_B.blind, mm_recvL (q := (RX4, TX4, 7)) C hH.1 kl_0 (mm_e4 kd_0) rfl, mm_preL C hH.1 hA⟩ rfl rfl hl.1 rfl (lv_room (Nat.le_of_ble_eq_true rfl)) dL_aged_252 ⟨Nat.zero_le _, Nat.zero_le _⟩) (fun H locs hH => ?_)
                  refine lv_aload_n hx hb dL_aged_255 rfl (lv_at hl 2 rfl) ?_
                  refine lv_iload_n hx hb dL_aged_256 rfl (lv_at hl 0 rfl) ?_
                  obtain ⟨g80, h⟩ := mm_grn h
                  refine md_dld C hH g80 dL_aged_257 ?_
                  refine lv_icmp_ne (tgt := 279) hx hb dL_aged_258 (by decide) (fun c133 => ?_) (fun c133 => ?_)
                  · have h := mm_neg c133 h
                    have hl := lv_sub (l' := []) hl [] rfl
                    cases h
                  · have h := mm_pos c133 h
                    refine lv_aload_n hx hb dL_aged_261 rfl (lv_at hl 1 rfl) ?_
                    refine lv_iload_n hx hb dL_aged_262 rfl (lv_at hl 3 rfl) ?_
                    refine lv_iconst (v := 1) hx hb dL_aged_263 (by decide) ?_
                    obtain ⟨v141, e141, h⟩ := mm_bnd h
                    refine md_goi hH hA (va_runV (As := [.int a2, .int 1]) (rest := []) ⟨hx, hb, C.2.2.1, C.2.2.2.1, C.2.2.2.2.1⟩ (ct_X4_of l G T b z a2 1 x e141) (cwV 2 C.2.2.2.2.1 gL_aged_X4_of rfl rfl rfl df_X4_of ⟨Nat.le_of_ble_eq_true rfl, Nat.le_of_ble_eq_true rfl⟩) ⟨mm_B.blind, mm_recvL (q := (RX4, TX4, 7)) C hH.1 kl_0 (mm_e4 kd_0) rfl, mm_preL C hH.1 hA⟩ rfl rfl hl.1 rfl (lv_room (Nat.le_of_ble_eq_true rfl)) dL_aged_264 ⟨Nat.zero_le _, Nat.zero_le _⟩) (fun H locs hH => ?_)
                    refine lv_aload_n hx hb dL_aged_267 rfl (lv_at hl 2 rfl) ?_
                    refine lv_iload_n hx hb dL_aged_268 rfl (lv_at hl 0 rfl) ?_
                    refine lv_iconst (v := 1) hx hb dL_aged_269 (by decide) ?_
                    refine lv_iadd hx hb dL_aged_270 ?_
                    obtain ⟨g81, h⟩ := mm_grn h
                    refine md_dld C hH g81 dL_aged_271 ?_
                    refine lv_icmp_ne (tgt := 279) hx hb dL_aged_272 (by decide) (fun c134 => ?_) (fun c134 => ?_)
                    · have h := mm_neg c134 h
                      have hl := lv_sub (l' := []) hl [] rfl
                      cases h
                    · have h := mm_pos c134 h
                      have hl := lv_sub (l' := []) hl [] rfl
                      refine lv_iconst (v := 1) hx hb dL_aged_275 (by decide) ?_
                      refine lv_goto (tgt := 280) hx hb dL_aged_276 (by decide) ?_
                      exact mm_iretP C hH.1 hr hlk rfl h dL_aged_280
      · have h := mm_neg c114 h
        refine lv_iconst (v := 1) hx hb dL_aged_75 (by decide) ?_
        refine lv_goto (tgt := 80) hx hb dL_aged_76 (by decide) ?_
        refine lv_istore (lv' := [(6, .int 1), (5, .int v88), (4, .int 1), (3, .int v1), (0, .ref (b + 0)), (1, .ref ad), (2, .int a2)]) hx hb dL_aged_80 hl (by decide) rfl (fun ls hl => ?_)
        refine lv_aload_n hx hb dL_aged_82 rfl (lv_at hl 5 rfl) ?_
        refine lv_iload_n hx hb dL_aged_83 rfl (lv_at hl 3 rfl) ?_
        refine lv_iconst (v := 3) hx hb dL_aged_84 (by decide) ?_
        refine lv_iadd hx hb dL_aged_85 ?_
        obtain ⟨g82, h⟩ := mm_grn h
        refine md_dld C hH g82 dL_aged_86 ?_
        refine lv_iconst (v := 1) hx hb dL_aged_87 (by decide) ?_
        refine lv_icmp_ne (tgt := 111) hx hb dL_aged_88 (by decide) (fun c => absurd c82 c) (fun _ => ?_)
        refine lv_iload hx hb dL_aged_91 (lv_at hl 1 rfl) ?_
        refine lv_aload_n hx hb dL_aged_93 rfl (lv_at hl 4 rfl) ?_
        refine lv_bipush (v := 12) hx hb dL_aged_94 (by decide) ?_
        obtain ⟨v142, e142, h⟩ := mm_bnd h
        refine md_goi hH hA (va_runV (As := [.int 12]) (rest := [.int v88]) ⟨hx, hb, C.2.2.1, C.2.2.2.1, C.2.2.2.2.1⟩ (ct_X4_count l G T b z 12 x e142) (cwV 1 C.2.2.2.2.1 gL_aged_X4_count rfl rfl rfl df_X4_count ⟨Nat.le_of_ble_eq_true rfl, Nat.le_of_ble_eq_true rfl⟩) ⟨mm_B.blind, mm_recvL (q := (RX4, TX4, 7)) C hH.1 kl_0 (mm_e4 kd_0) rfl, mm_preL C hH.1 hA⟩ rfl rfl hl.1 rfl (lv_room (Nat.le_of_ble_eq_true rfl)) dL_aged_96 ⟨Nat.zero_le _, Nat.zero_le _⟩) (fun H locs hH => ?_)
        refine lv_icmp_lt (tgt := 107) hx hb dL_aged_99 (by decide) (fun c135 => ?_) (fun c135 => ?_)
        · have h := mm_pos c135 h
          have hl := lv_sub (l' := [(5, .int v88), (4, .int 1), (3, .int v1), (0, .ref (b + 0)), (1, .ref ad), (2, .int a2)]) hl [1, 2, 3, 4, 5, 6] rfl
          refine lv_iconst (v := 1) hx hb dL_aged_107 (by decide) ?_
          refine lv_goto (tgt := 112) hx hb dL_aged_108 (by decide) ?_
          refine lv_istore (lv' := [(7, .int 1), (5, .int v88), (4, .int 1), (3, .int v1), (0, .ref (b + 0)), (1, .ref ad), (2, .int a2)]) hx hb dL_aged_112 hl (by decide) rfl (fun ls hl => ?_)
          refine lv_iload hx hb dL_aged_114 (lv_at hl 0 rfl) ?_
          refine lv_if_eq (tgt := 141) hx hb dL_aged_116 (by decide) (fun c => absurd c (by decide)) (fun _ => ?_)
          refine lv_iload hx hb dL_aged_119 (lv_at hl 1 rfl) ?_
          refine lv_aload_n hx hb dL_aged_121 rfl (lv_at hl 4 rfl) ?_
          refine lv_bipush (v := 12) hx hb dL_aged_122 (by decide) ?_
          obtain ⟨v143, e143, h⟩ := mm_bnd h
          refine md_goi hH hA (va_runV (As := [.int 12]) (rest := [.int v88]) ⟨hx, hb, C.2.2.1, C.2.2.2.1, C.2.2.2.2.1⟩ (ct_X4_count l G T b z 12 x e143) (cwV 1 C.2.2.2.2.1 gL_aged_X4_count rfl rfl rfl df_X4_count ⟨Nat.le_of_ble_eq_true rfl, Nat.le_of_ble_eq_true rfl⟩) ⟨mm_B.blind, mm_recvL (q := (RX4, TX4, 7)) C hH.1 kl_0 (mm_e4 kd_0) rfl, mm_preL C hH.1 hA⟩ rfl rfl hl.1 rfl (lv_room (Nat.le_of_ble_eq_true rfl)) dL_aged_124 ⟨Nat.zero_le _, Nat.zero_le _⟩) (fun H locs hH => ?_)
          refine lv_icmp_lt (tgt := 141) hx hb dL_aged_127 (by decide) (fun c136 => ?_) (fun c136 => ?_)
          · have h := mm_pos c136 h
            refine lv_iload hx hb dL_aged_141 (lv_at hl 1 rfl) ?_
            refine lv_istore (lv' := [(5, .int v88), (7, .int 1), (4, .int 1), (3, .int v1), (0, .ref (b + 0)), (1, .ref ad), (2, .int a2)]) hx hb dL_aged_143 hl (by decide) rfl (fun ls hl => ?_)
            refine lv_aload_n hx hb dL_aged_145 rfl (lv_at hl 4 rfl) ?_
            refine lv_iload_n hx hb dL_aged_146 rfl (lv_at hl 6 rfl) ?_
            refine lv_iconst (v := 2) hx hb dL_aged_147 (by decide) ?_
            obtain ⟨v144, e144, h⟩ := mm_bnd h
            refine md_goi hH hA (va_runV (As := [.int a2, .int 2]) (rest := []) ⟨hx, hb, C.2.2.1, C.2.2.2.1, C.2.2.2.2.1⟩ (ct_X4_of l G T b z a2 2 x e144) (cwV 2 C.2.2.2.2.1 gL_aged_X4_of rfl rfl rfl df_X4_of ⟨Nat.le_of_ble_eq_true rfl, Nat.le_of_ble_eq_true rfl⟩) ⟨mm_B.blind, mm_recvL (q := (RX4, TX4, 7)) C hH.1 kl_0 (mm_e4 kd_0) rfl, mm_preL C hH.1 hA⟩ rfl rfl hl.1 rfl (lv_room (Nat.le_of_ble_eq_true rfl)) dL_aged_148 ⟨Nat.zero_le _, Nat.zero_le _⟩) (fun H locs hH => ?_)
            refine lv_iload hx hb dL_aged_151 (lv_at hl 0 rfl) ?_
            refine lv_icmp_ne (tgt := 208) hx hb dL_aged_153 (by decide) (fun c137 => ?_) (fun c137 => ?_)
            · have h := mm_neg c137 h
              have hl := lv_sub (l' := [(7, .int 1), (3, .int v1), (0, .ref (b + 0)), (1, .ref ad), (2, .int a2)]) hl [1, 3, 4, 5, 6] rfl
              cases h
            · have h := mm_pos c137 h
              have hl := lv_sub (l' := [(7, .int 1), (4, .int 1), (3, .int v1), (0, .ref (b + 0)), (1, .ref ad), (2, .int a2)]) hl [1, 2, 3, 4, 5, 6] rfl
              refine lv_aload_n hx hb dL_aged_156 rfl (lv_at hl 3 rfl) ?_
              refine lv_iload_n hx hb dL_aged_157 rfl (lv_at hl 5 rfl) ?_
              refine lv_iconst (v := 5) hx hb dL_aged_158 (by decide) ?_
              obtain ⟨v145, e145, h⟩ := mm_bnd h
              refine md_goi hH hA (va_runV (As := [.int a2, .int 5]) (rest := []) ⟨hx, hb, C.2.2.1, C.2.2.2.1, C.2.2.2.2.1⟩ (ct_X4_of l G T b z a2 5 x e145) (cwV 2 C.2.2.2.2.1 gL_aged_X4_of rfl rfl rfl df_X4_of ⟨Nat.le_of_ble_eq_true rfl, Nat.le_of_ble_eq_true rfl⟩) ⟨mm_B.blind, mm_recvL (q := (RX4, TX4, 7)) C hH.1 kl_0 (mm_e4 kd_0) rfl, mm_preL C hH.1 hA⟩ rfl rfl hl.1 rfl (lv_room (Nat.le_of_ble_eq_true rfl)) dL_aged_159 ⟨Nat.zero_le _, Nat.zero_le _⟩) (fun H locs hH => ?_)
              refine lv_iload hx hb dL_aged_162 (lv_at hl 1 rfl) ?_
              refine lv_if_eq (tgt := 171) hx hb dL_aged_164 (by decide) (fun c => absurd c (by decide)) (fun _ => ?_)
              have hl := lv_sub (l' := [(7, .int 1), (3, .int v1), (0, .ref (b + 0)), (1, .ref ad), (2, .int a2)]) hl [0, 2, 3, 4, 5] rfl
              refine lv_iconst (v := 0) hx hb dL_aged_167 (by decide) ?_
              refine lv_goto (tgt := 178) hx hb dL_aged_168 (by decide) ?_
              refine lv_icmp_ne (tgt := 208) hx hb dL_aged_178 (by decide) (fun c138 => ?_) (fun c138 => ?_)
              · have h := mm_neg c138 h
                cases h
              · have h := mm_pos c138 h
                refine lv_aload_n hx hb dL_aged_181 rfl (lv_at hl 2 rfl) ?_
                refine lv_iload_n hx hb dL_aged_182 rfl (lv_at hl 4 rfl) ?_
                refine lv_iconst (v := 3) hx hb dL_aged_183 (by decide) ?_
                obtain ⟨v146, e146, h⟩ := mm_bnd h
                refine md_goi hH hA (va_runV (As := [.int a2, .int 3]) (rest := []) ⟨hx, hb, C.2.2.1, C.2.2.2.1, C.2.2.2.2.1⟩ (ct_X4_of l G T b z a2 3 x e146) (cwV 2 C.2.2.2.2.1 gL_aged_X4_of rfl rfl rfl df_X4_of ⟨Nat.le_of_ble_eq_true rfl, Nat.le_of_ble_eq_true rfl⟩) ⟨mm_B.blind, mm_recvL (q := (RX4, TX4, 7)) C hH.1 kl_0 (mm_e4 kd_0) rfl, mm_preL C hH.1 hA⟩ rfl rfl hl.1 rfl (lv_room (Nat.le_of_ble_eq_true rfl)) dL_aged_184 ⟨Nat.zero_le _, Nat.zero_le _⟩) (fun H locs hH => ?_)
                refine lv_iload hx hb dL_aged_187 (lv_at hl 0 rfl) ?_
                refine lv_if_eq (tgt := 196) hx hb dL_aged_189 (by decide) (fun c => absurd c (by decide)) (fun _ => ?_)
                refine lv_iconst (v := 0) hx hb dL_aged_192 (by decide) ?_
                refine lv_goto (tgt := 201) hx hb dL_aged_193 (by decide) ?_
                refine lv_icmp_ne (tgt := 208) hx hb dL_aged_201 (by decide) (fun c139 => ?_) (fun c139 => ?_)
                · have h := mm_neg c139 h
                  cases h
                · have h := mm_pos c139 h
                  refine lv_iconst (v := 1) hx hb dL_aged_204 (by decide) ?_
                  refine lv_goto (tgt := 209) hx hb dL_aged_205 (by decide) ?_
                  refine lv_istore (lv' := [(8, .int 1), (7, .int 1), (3, .int v1), (0, .ref (b + 0)), (1, .ref ad), (2, .int a2)]) hx hb dL_aged_209 hl (by decide) rfl (fun ls hl => ?_)
                  refine lv_iload hx hb dL_aged_211 (lv_at hl 0 rfl) ?_
                  refine lv_if_eq (tgt := 279) hx hb dL_aged_213 (by decide) (fun c => absurd c (by decide)) (fun _ => ?_)
                  have hl := lv_sub (l' := [(7, .int 1), (3, .int v1), (0, .ref (b + 0)), (1, .ref ad), (2, .int a2)]) hl [1, 2, 3, 4, 5] rfl
                  refine lv_aload_n hx hb dL_aged_216 rfl (lv_at hl 2 rfl) ?_
                  refine lv_iload_n hx hb dL_aged_217 rfl (lv_at hl 4 rfl) ?_
                  refine lv_iconst (v := 4) hx hb dL_aged_218 (by decide) ?_
                  obtain ⟨v147, e147, h⟩ := mm_bnd h
                  refine md_goi hH hA (va_runV (As := [.int a2, .int 4]) (rest := []) ⟨hx, hb, C.2.2.1, C.2.2.2.1, C.2.2.2.2.1⟩ (ct_X4_of l G T b z a2 4 x e147) (cwV 2 C.2.2.2.2.1 gL_aged_X4_of rfl rfl rfl df_X4_of ⟨Nat.le_of_ble_eq_true rfl, Nat.le_of_ble_eq_true rfl⟩) ⟨mm_B.blind, mm_recvL (q := (RX4, TX4, 7)) C hH.1 kl_0 (mm_e4 kd_0) rfl, mm_preL C hH.1 hA⟩ rfl rfl hl.1 rfl (lv_room (Nat.le_of_ble_eq_true rfl)) dL_aged_219 ⟨Nat.zero_le _, Nat.zero_le _⟩) (fun H locs hH => ?_)
                  refine lv_iload hx hb dL_aged_222 (lv_at hl 0 rfl) ?_
                  refine lv_if_ne (tgt := 235) hx hb dL_aged_224 (by decide) (fun _ => ?_) (fun c => absurd c (by decide))
                  have hl := lv_sub (l' := [(3, .int v1), (0, .ref (b + 0)), (1, .ref ad), (2, .int a2)]) hl [1, 2, 3, 4] rfl
                  refine lv_iconst (v := 0) hx hb dL_aged_235 (by decide) ?_
                  refine lv_goto (tgt := 246) hx hb dL_aged_236 (by decide) ?_
                  refine lv_icmp_ne (tgt := 279) hx hb dL_aged_246 (by decide) (fun c140 => ?_) (fun c140 => ?_)
                  · have h := mm_neg c140 h
                    have hl := lv_sub (l' := []) hl [] rfl
                    cases h
                  · have h := mm_pos c140 h
                    refine lv_aload_n hx hb dL_aged_249 rfl (lv_at hl 1 rfl) ?_
                    refine lv_iload_n hx hb dL_aged_250 rfl (lv_at hl 3 rfl) ?_
                    refine lv_iconst (v := 0) hx hb dL_aged_251 (by decide) ?_
                    obtain ⟨v148, e148, h⟩ := mm_bnd h
                    refine md_goi hH hA (va_runV (As := [.int a2, .int 0]) (rest := []) ⟨hx, hb, C.2.2.1, C.2.2.2.1, C.2.2.2.2.1⟩ (ct_X4_of l G T b z a2 0 x e148) (cwV 2 C.2.2.2.2.1 gL_aged_X4_of rfl rfl rfl df_X4_of ⟨Nat.le_of_ble_eq_true rfl, Nat.le_of_ble_eq_true rfl⟩) ⟨mm_B.blind, mm_recvL (q := (RX4, TX4, 7)) C hH.1 kl_0 (mm_e4 kd_0) rfl, mm_preL C hH.1 hA⟩ rfl rfl hl.1 rfl (lv_room (Nat.le_of_ble_eq_true rfl)) dL_aged_252 ⟨Nat.zero_le _, Nat.zero_le _⟩) (fun H locs hH => ?_)
                    refine lv_aload_n hx hb dL_aged_255 rfl (lv_at hl 2 rfl) ?_
                    refine lv_iload_n hx hb dL_aged_256 rfl (lv_at hl 0 rfl) ?_
                    obtain ⟨g83, h⟩ := mm_grn h
                    refine md_dld C hH g83 dL_aged_257 ?_
                    refine lv_icmp_ne (tgt := 279) hx hb dL_aged_258 (by decide) (fun c141 => ?_) (fun c141 => ?_)
                    · have h := mm_neg c141 h
                      have hl := lv_sub (l' := []) hl [] rfl
                      cases h
                    · have h := mm_pos c141 h
                      refine lv_aload_n hx hb dL_aged_261 rfl (lv_at hl 1 rfl) ?_
                      refine lv_iload_n hx hb dL_aged_262 rfl (lv_at hl 3 rfl) ?_
                      refine lv_iconst (v := 1) hx hb dL_aged_263 (by decide) ?_
                      obtain ⟨v149, e149, h⟩ := mm_bnd h
                      refine md_goi hH hA (va_runV (As := [.int a2, .int 1]) (rest := []) ⟨hx, hb, C.2.2.1, C.2.2.2.1, C.2.2.2.2.1⟩ (ct_X4_of l G T b z a2 1 x e149) (cwV 2 C.2.2.2.2.1 gL_aged_X4_of rfl rfl rfl df_X4_of ⟨Nat.le_of_ble_eq_true rfl, Nat.le_of_ble_eq_true rfl⟩) ⟨mm_B.blind, mm_recvL (q := (RX4, TX4, 7)) C hH.1 kl_0 (mm_e4 kd_0) rfl, mm_preL C hH.1 hA⟩ rfl rfl hl.1 rfl (lv_room (Nat.le_of_ble_eq_true rfl)) dL_aged_264 ⟨Nat.zero_le _, Nat.zero_le _⟩) (fun H locs hH => ?_)
                      refine lv_aload_n hx hb dL_aged_267 rfl (lv_at hl 2 rfl) ?_
                      refine lv_iload_n hx hb dL_aged_268 rfl (lv_at hl 0 rfl) ?_
                      refine lv_iconst (v := 1) hx hb dL_aged_269 (by decide) ?_
                      refine lv_iadd hx hb dL_aged_270 ?_
                      obtain ⟨g84, h⟩ := mm_grn h
                      refine md_dld C hH g84 dL_aged_271 ?_
                      refine lv_icmp_ne (tgt := 279) hx hb dL_aged_272 (by decide) (fun c142 => ?_) (fun c142 => ?_)
                      · have h := mm_neg c142 h
                        have hl := lv_sub (l' := []) hl [] rfl
                        cases h
                      · have h := mm_pos c142 h
                        have hl := lv_sub (l' := []) hl [] rfl
                        refine lv_iconst (v := 1) hx hb dL_aged_275 (by decide) ?_
                        refine lv_goto (tgt := 280) hx hb dL_aged_276 (by decide) ?_
                        exact mm_iretP C hH.1 hr hlk rfl h dL_aged_280
          · have h := mm_neg c136 h
            have hl := lv_sub (l' := [(7, .int 1), (4, .int 1), (3, .int v1), (0, .ref (b + 0)), (1, .ref ad), (2, .int a2)]) hl [0, 2, 3, 4, 5, 6] rfl
            refine lv_aload_n hx hb dL_aged_130 rfl (lv_at hl 3 rfl) ?_
            refine lv_bipush (v := 12) hx hb dL_aged_131 (by decide) ?_
            obtain ⟨v150, e150, h⟩ := mm_bnd h
            refine md_goi hH hA (va_runV (As := [.int 12]) (rest := []) ⟨hx, hb, C.2.2.1, C.2.2.2.1, C.2.2.2.2.1⟩ (ct_X4_count l G T b z 12 x e150) (cwV 1 C.2.2.2.2.1 gL_aged_X4_count rfl rfl rfl df_X4_count ⟨Nat.le_of_ble_eq_true rfl, Nat.le_of_ble_eq_true rfl⟩) ⟨mm_B.blind, mm_recvL (q := (RX4, TX4, 7)) C hH.1 kl_0 (mm_e4 kd_0) rfl, mm_preL C hH.1 hA⟩ rfl rfl hl.1 rfl (lv_room (Nat.le_of_ble_eq_true rfl)) dL_aged_133 ⟨Nat.zero_le _, Nat.zero_le _⟩) (fun H locs hH => ?_)
            refine lv_iconst (v := 1) hx hb dL_aged_136 (by decide) ?_
            refine lv_isub hx hb dL_aged_137 ?_
            refine lv_goto (tgt := 143) hx hb dL_aged_138 (by decide) ?_
            obtain ⟨v151, e151, h⟩ := mm_bnd h
            refine mm_nmi e151 ?_
            refine lv_istore (lv' := [(5, .int v151), (7, .int 1), (4, .int 1), (3, .int v1), (0, .ref (b + 0)), (1, .ref ad), (2, .int a2)]) hx hb dL_aged_143 hl (by decide) rfl (fun ls hl => ?_)
            refine lv_aload_n hx hb dL_aged_145 rfl (lv_at hl 4 rfl) ?_
            refine lv_iload_n hx hb dL_aged_146 rfl (lv_at hl 6 rfl) ?_
            refine lv_iconst (v := 2) hx hb dL_aged_147 (by decide) ?_
            obtain ⟨v152, e152, h⟩ := mm_bnd h
            refine md_goi hH hA (va_runV (As := [.int a2, .int 2]) (rest := []) ⟨hx, hb, C.2.2.1, C.2.2.2.1, C.2.2.2.2.1⟩ (ct_X4_of l G T b z a2 2 x e152) (cwV 2 C.2.2.2.2.1 gL_aged_X4_of rfl rfl rfl df_X4_of ⟨Nat.le_of_ble_eq_true rfl, Nat.le_of_ble_eq_true rfl⟩) ⟨mm_B.blind, mm_recvL (q := (RX4, TX4, 7)) C hH.1 kl_0 (mm_e4 kd_0) rfl, mm_preL C hH.1 hA⟩ rfl rfl hl.1 rfl (lv_room (Nat.le_of_ble_eq_true rfl)) dL_aged_148 ⟨Nat.zero_le _, Nat.zero_le _⟩) (fun H locs hH => ?_)
            refine lv_iload hx hb dL_aged_151 (lv_at hl 0 rfl) ?_
            refine lv_icmp_ne (tgt := 208) hx hb dL_aged_153 (by decide) (fun c143 => ?_) (fun c143 => ?_)
            · have h := mm_neg c143 h
              have hl := lv_sub (l' := [(7, .int 1), (3, .int v1), (0, .ref (b + 0)), (1, .ref ad), (2, .int a2)]) hl [1, 3, 4, 5, 6] rfl
              cases h
            · have h := mm_pos c143 h
              have hl := lv_sub (l' := [(7, .int 1), (4, .int 1), (3, .int v1), (0, .ref (b + 0)), (1, .ref ad), (2, .int a2)]) hl [1, 2, 3, 4, 5, 6] rfl
              refine lv_aload_n hx hb dL_aged_156 rfl (lv_at hl 3 rfl) ?_
              refine lv_iload_n hx hb dL_aged_157 rfl (lv_at hl 5 rfl) ?_
              refine lv_iconst (v := 5) hx hb dL_aged_158 (by decide) ?_
              obtain ⟨v153, e153, h⟩ := mm_bnd h
              refine md_goi hH hA (va_runV (As := [.int a2, .int 5]) (rest := []) ⟨hx, hb, C.2.2.1, C.2.2.2.1, C.2.2.2.2.1⟩ (ct_X4_of l G T b z a2 5 x e153) (cwV 2 C.2.2.2.2.1 gL_aged_X4_of rfl rfl rfl df_X4_of ⟨Nat.le_of_ble_eq_true rfl, Nat.le_of_ble_eq_true rfl⟩) ⟨mm_B.blind, mm_recvL (q := (RX4, TX4, 7)) C hH.1 kl_0 (mm_e4 kd_0) rfl, mm_preL C hH.1 hA⟩ rfl rfl hl.1 rfl (lv_room (Nat.le_of_ble_eq_true rfl)) dL_aged_159 ⟨Nat.zero_le _, Nat.zero_le _⟩) (fun H locs hH => ?_)
              refine lv_iload hx hb dL_aged_162 (lv_at hl 1 rfl) ?_
              refine lv_if_eq (tgt := 171) hx hb dL_aged_164 (by decide) (fun c => absurd c (by decide)) (fun _ => ?_)
              have hl := lv_sub (l' := [(7, .int 1), (3, .int v1), (0, .ref (b + 0)), (1, .ref ad), (2, .int a2)]) hl [0, 2, 3, 4, 5] rfl
              refine lv_iconst (v := 0) hx hb dL_aged_167 (by decide) ?_
              refine lv_goto (tgt := 178) hx hb dL_aged_168 (by decide) ?_
              refine lv_icmp_ne (tgt := 208) hx hb dL_aged_178 (by decide) (fun c144 => ?_) (fun c144 => ?_)
              · have h := mm_neg c144 h
                cases h
              · have h := mm_pos c144 h
                refine lv_aload_n hx hb dL_aged_181 rfl (lv_at hl 2 rfl) ?_
                refine lv_iload_n hx hb dL_aged_182 rfl (lv_at hl 4 rfl) ?_
                refine lv_iconst (v := 3) hx hb dL_aged_183 (by decide) ?_
                obtain ⟨v154, e154, h⟩ := mm_bnd h
                refine md_goi hH hA (va_runV (As := [.int a2, .int 3]) (rest := []) ⟨hx, hb, C.2.2.1, C.2.2.2.1, C.2.2.2.2.1⟩ (ct_X4_of l G T b z a2 3 x e154) (cwV 2 C.2.2.2.2.1 gL_aged_X4_of rfl rfl rfl df_X4_of ⟨Nat.le_of_ble_eq_true rfl, Nat.le_of_ble_eq_true rfl⟩) ⟨mm_B.blind, mm_recvL (q := (RX4, TX4, 7)) C hH.1 kl_0 (mm_e4 kd_0) rfl, mm_preL C hH.1 hA⟩ rfl rfl hl.1 rfl (lv_room (Nat.le_of_ble_eq_true rfl)) dL_aged_184 ⟨Nat.zero_le _, Nat.zero_le _⟩) (fun H locs hH => ?_)
                refine lv_iload hx hb dL_aged_187 (lv_at hl 0 rfl) ?_
                refine lv_if_eq (tgt := 196) hx hb dL_aged_189 (by decide) (fun c => absurd c (by decide)) (fun _ => ?_)
                refine lv_iconst (v := 0) hx hb dL_aged_192 (by decide) ?_
                refine lv_goto (tgt := 201) hx hb dL_aged_193 (by decide) ?_
                refine lv_icmp_ne (tgt := 208) hx hb dL_aged_201 (by decide) (fun c145 => ?_) (fun c145 => ?_)
                · have h := mm_neg c145 h
                  cases h
                · have h := mm_pos c145 h
                  refine lv_iconst (v := 1) hx hb dL_aged_204 (by decide) ?_
                  refine lv_goto (tgt := 209) hx hb dL_aged_205 (by decide) ?_
                  refine lv_istore (lv' := [(8, .int 1), (7, .int 1), (3, .int v1), (0, .ref (b + 0)), (1, .ref ad), (2, .int a2)]) hx hb dL_aged_209 hl (by decide) rfl (fun ls hl => ?_)
                  refine lv_iload hx hb dL_aged_211 (lv_at hl 0 rfl) ?_
                  refine lv_if_eq (tgt := 279) hx hb dL_aged_213 (by decide) (fun c => absurd c (by decide)) (fun _ => ?_)
                  have hl := lv_sub (l' := [(7, .int 1), (3, .int v1), (0, .ref (b + 0)), (1, .ref ad), (2, .int a2)]) hl [1, 2, 3, 4, 5] rfl
                  refine lv_aload_n hx hb dL_aged_216 rfl (lv_at hl 2 rfl) ?_
                  refine lv_iload_n hx hb dL_aged_217 rfl (lv_at hl 4 rfl) ?_
                  refine lv_iconst (v := 4) hx hb dL_aged_218 (by decide) ?_
                  obtain ⟨v155, e155, h⟩ := mm_bnd h
                  refine md_goi hH hA (va_runV (As := [.int a2, .int 4]) (rest := []) ⟨hx, hb, C.2.2.1, C.2.2.2.1, C.2.2.2.2.1⟩ (ct_X4_of l G T b z a2 4 x e155) (cwV 2 C.2.2.2.2.1 gL_aged_X4_of rfl rfl rfl df_X4_of ⟨Nat.le_of_ble_eq_true rfl, Nat.le_of_ble_eq_true rfl⟩) ⟨mm_B.blind, mm_recvL (q := (RX4, TX4, 7)) C hH.1 kl_0 (mm_e4 kd_0) rfl, mm_preL C hH.1 hA⟩ rfl rfl hl.1 rfl (lv_room (Nat.le_of_ble_eq_true rfl)) dL_aged_219 ⟨Nat.zero_le _, Nat.zero_le _⟩) (fun H locs hH => ?_)
                  refine lv_iload hx hb dL_aged_222 (lv_at hl 0 rfl) ?_
                  refine lv_if_ne (tgt := 235) hx hb dL_aged_224 (by decide) (fun _ => ?_) (fun c => absurd c (by decide))
                  have hl := lv_sub (l' := [(3, .int v1), (0, .ref (b + 0)), (1, .ref ad), (2, .int a2)]) hl [1, 2, 3, 4] rfl
                  refine lv_iconst (v := 0) hx hb dL_aged_235 (by decide) ?_
                  refine lv_goto (tgt := 246) hx hb dL_aged_236 (by decide) ?_
                  refine lv_icmp_ne (tgt := 279) hx hb dL_aged_246 (by decide) (fun c146 => ?_) (fun c146 => ?_)
                  · have h := mm_neg c146 h
                    have hl := lv_sub (l' := []) hl [] rfl
                    cases h
                  · have h := mm_pos c146 h
                    refine lv_aload_n hx hb dL_aged_249 rfl (lv_at hl 1 rfl) ?_
                    refine lv_iload_n hx hb dL_aged_250 rfl (lv_at hl 3 rfl) ?_
                    refine lv_iconst (v := 0) hx hb dL_aged_251 (by decide) ?_
                    obtain ⟨v156, e156, h⟩ := mm_bnd h
                    refine md_goi hH hA (va_runV (As := [.int a2, .int 0]) (rest := []) ⟨hx, hb, C.2.2.1, C.2.2.2.1, C.2.2.2.2.1⟩ (ct_X4_of l G T b z a2 0 x e156) (cwV 2 C.2.2.2.2.1 gL_aged_X4_of rfl rfl rfl df_X4_of ⟨Nat.le_of_ble_eq_true rfl, Nat.le_of_ble_eq_true rfl⟩) ⟨mm_B.blind, mm_recvL (q := (RX4, TX4, 7)) C hH.1 kl_0 (mm_e4 kd_0) rfl, mm_preL C hH.1 hA⟩ rfl rfl hl.1 rfl (lv_room (Nat.le_of_ble_eq_true rfl)) dL_aged_252 ⟨Nat.zero_le _, Nat.zero_le _⟩) (fun H locs hH => ?_)
                    refine lv_aload_n hx hb dL_aged_255 rfl (lv_at hl 2 rfl) ?_
                    refine lv_iload_n hx hb dL_aged_256 rfl (lv_at hl 0 rfl) ?_
                    obtain ⟨g85, h⟩ := mm_grn h
                    refine md_dld C hH g85 dL_aged_257 ?_
                    refine lv_icmp_ne (tgt := 279) hx hb dL_aged_258 (by decide) (fun c147 => ?_) (fun c147 => ?_)
                    · have h := mm_neg c147 h
                      have hl := lv_sub (l' := []) hl [] rfl
                      cases h
                    · have h := mm_pos c147 h
                      refine lv_aload_n hx hb dL_aged_261 rfl (lv_at hl 1 rfl) ?_
                      refine lv_iload_n hx hb dL_aged_262 rfl (lv_at hl 3 rfl) ?_
                      refine lv_iconst (v := 1) hx hb dL_aged_263 (by decide) ?_
                      obtain ⟨v157, e157, h⟩ := mm_bnd h
                      refine md_goi hH hA (va_runV (As := [.int a2, .int 1]) (rest := []) ⟨hx, hb, C.2.2.1, C.2.2.2.1, C.2.2.2.2.1⟩ (ct_X4_of l G T b z a2 1 x e157) (cwV 2 C.2.2.2.2.1 gL_aged_X4_of rfl rfl rfl df_X4_of ⟨Nat.le_of_ble_eq_true rfl, Nat.le_of_ble_eq_true rfl⟩) ⟨mm_B.blind, mm_recvL (q := (RX4, TX4, 7)) C hH.1 kl_0 (mm_e4 kd_0) rfl, mm_preL C hH.1 hA⟩ rfl rfl hl.1 rfl (lv_room (Nat.le_of_ble_eq_true rfl)) dL_aged_264 ⟨Nat.zero_le _, Nat.zero_le _⟩) (fun H locs hH => ?_)
                      refine lv_aload_n hx hb dL_aged_267 rfl (lv_at hl 2 rfl) ?_
                      refine lv_iload_n hx hb dL_aged_268 rfl (lv_at hl 0 rfl) ?_
                      refine lv_iconst (v := 1) hx hb dL_aged_269 (by decide) ?_
                      refine lv_iadd hx hb dL_aged_270 ?_
                      obtain ⟨g86, h⟩ := mm_grn h
                      refine md_dld C hH g86 dL_aged_271 ?_
                      refine lv_icmp_ne (tgt := 279) hx hb dL_aged_272 (by decide) (fun c148 => ?_) (fun c148 => ?_)
                      · have h := mm_neg c148 h
                        have hl := lv_sub (l' := []) hl [] rfl
                        cases h
                      · have h := mm_pos c148 h
                        have hl := lv_sub (l' := []) hl [] rfl
                        refine lv_iconst (v := 1) hx hb dL_aged_275 (by decide) ?_
                        refine lv_goto (tgt := 280) hx hb dL_aged_276 (by decide) ?_
                        exact mm_iretP C hH.1 hr hlk rfl h dL_aged_280
        · have h := mm_neg c135 h
          refine lv_iload hx hb dL_aged_102 (lv_at hl 0 rfl) ?_
          refine lv_if_eq (tgt := 111) hx hb dL_aged_104 (by decide) (fun c => absurd c (by decide)) (fun _ => ?_)
          have hl := lv_sub (l' := [(5, .int v88), (4, .int 1), (3, .int v1), (0, .ref (b + 0)), (1, .ref ad), (2, .int a2)]) hl [1, 2, 3, 4, 5, 6] rfl
          refine lv_iconst (v := 1) hx hb dL_aged_107 (by decide) ?_
          refine lv_goto (tgt := 112) hx hb dL_aged_108 (by decide) ?_
          refine lv_istore (lv' := [(7, .int 1), (5, .int v88), (4, .int 1), (3, .int v1), (0, .ref (b + 0)), (1, .ref ad), (2, .int a2)]) hx hb dL_aged_112 hl (by decide) rfl (fun ls hl => ?_)
          refine lv_iload hx hb dL_aged_114 (lv_at hl 0 rfl) ?_
          refine lv_if_eq (tgt := 141) hx hb dL_aged_116 (by decide) (fun c => absurd c (by decide)) (fun _ => ?_)
          refine lv_iload hx hb dL_aged_119 (lv_at hl 1 rfl) ?_
          refine lv_aload_n hx hb dL_aged_121 rfl (lv_at hl 4 rfl) ?_
          refine lv_bipush (v := 12) hx hb dL_aged_122 (by decide) ?_
          obtain ⟨v158, e158, h⟩ := mm_bnd h
          refine md_goi hH hA (va_runV (As := [.int 12]) (rest := [.int v88]) ⟨hx, hb, C.2.2.1, C.2.2.2.1, C.2.2.2.2.1⟩ (ct_X4_count l G T b z 12 x e158) (cwV 1 C.2.2.2.2.1 gL_aged_X4_count rfl rfl rfl df_X4_count ⟨Nat.le_of_ble_eq_true rfl, Nat.le_of_ble_eq_true rfl⟩) ⟨mm_B.blind, mm_recvL (q := (RX4, TX4, 7)) C hH.1 kl_0 (mm_e4 kd_0) rfl, mm_preL C hH.1 hA⟩ rfl rfl hl.1 rfl (lv_room (Nat.le_of_ble_eq_true rfl)) dL_aged_124 ⟨Nat.zero_le _, Nat.zero_le _⟩) (fun H locs hH => ?_)
          refine lv_icmp_lt (tgt := 141) hx hb dL_aged_127 (by decide) (fun c149 => ?_) (fun c149 => ?_)
          · have h := mm_pos c149 h
            refine lv_iload hx hb dL_aged_141 (lv_at hl 1 rfl) ?_
            refine lv_istore (lv' := [(5, .int v88), (7, .int 1), (4, .int 1), (3, .int v1), (0, .ref (b + 0)), (1, .ref ad), (2, .int a2)]) hx hb dL_aged_143 hl (by decide) rfl (fun ls hl => ?_)
            refine lv_aload_n hx hb dL_aged_145 rfl (lv_at hl 4 rfl) ?_
            refine lv_iload_n hx hb dL_aged_146 rfl (lv_at hl 6 rfl) ?_
            refine lv_iconst (v := 2) hx hb dL_aged_147 (by decide) ?_
            obtain ⟨v159, e159, h⟩ := mm_bnd h
            refine md_goi hH hA (va_runV (As := [.int a2, .int 2]) (rest := []) ⟨hx, hb, C.2.2.1, C.2.2.2.1, C.2.2.2.2.1⟩ (ct_X4_of l G T b z a2 2 x e159) (cwV 2 C.2.2.2.2.1 gL_aged_X4_of rfl rfl rfl df_X4_of ⟨Nat.le_of_ble_eq_true rfl, Nat.le_of_ble_eq_true rfl⟩) ⟨mm_B.blind, mm_recvL (q := (RX4, TX4, 7)) C hH.1 kl_0 (mm_e4 kd_0) rfl, mm_preL C hH.1 hA⟩ rfl rfl hl.1 rfl (lv_room (Nat.le_of_ble_eq_true rfl)) dL_aged_148 ⟨Nat.zero_le _, Nat.zero_le _⟩) (fun H locs hH => ?_)
            refine lv_iload hx hb dL_aged_151 (lv_at hl 0 rfl) ?_
            refine lv_icmp_ne (tgt := 208) hx hb dL_aged_153 (by decide) (fun c150 => ?_) (fun c150 => ?_)
            · have h := mm_neg c150 h
              have hl := lv_sub (l' := [(7, .int 1), (3, .int v1), (0, .ref (b + 0)), (1, .ref ad), (2, .int a2)]) hl [1, 3, 4, 5, 6] rfl
              cases h
            · have h := mm_pos c150 h
              have hl := lv_sub (l' := [(7, .int 1), (4, .int 1), (3, .int v1), (0, .ref (b + 0)), (1, .ref ad), (2, .int a2)]) hl [1, 2, 3, 4, 5, 6] rfl
              refine lv_aload_n hx hb dL_aged_156 rfl (lv_at hl 3 rfl) ?_
              refine lv_iload_n hx hb dL_aged_157 rfl (lv_at hl 5 rfl) ?_
              refine lv_iconst (v := 5) hx hb dL_aged_158 (by decide) ?_
              obtain ⟨v160, e160, h⟩ := mm_bnd h
              refine md_goi hH hA (va_runV (As := [.int a2, .int 5]) (rest := []) ⟨hx, hb, C.2.2.1, C.2.2.2.1, C.2.2.2.2.1⟩ (ct_X4_of l G T b z a2 5 x e160) (cwV 2 C.2.2.2.2.1 gL_aged_X4_of rfl rfl rfl df_X4_of ⟨Nat.le_of_ble_eq_true rfl, Nat.le_of_ble_eq_true rfl⟩) ⟨mm_B.blind, mm_recvL (q := (RX4, TX4, 7)) C hH.1 kl_0 (mm_e4 kd_0) rfl, mm_preL C hH.1 hA⟩ rfl rfl hl.1 rfl (lv_room (Nat.le_of_ble_eq_true rfl)) dL_aged_159 ⟨Nat.zero_le _, Nat.zero_le _⟩) (fun H locs hH => ?_)
              refine lv_iload hx hb dL_aged_162 (lv_at hl 1 rfl) ?_
              refine lv_if_eq (tgt := 171) hx hb dL_aged_164 (by decide) (fun c => absurd c (by decide)) (fun _ => ?_)
              have hl := lv_sub (l' := [(7, .int 1), (3, .int v1), (0, .ref (b + 0)), (1, .ref ad), (2, .int a2)]) hl [0, 2, 3, 4, 5] rfl
              refine lv_iconst (v := 0) hx hb dL_aged_167 (by decide) ?_
              refine lv_goto (tgt := 178) hx hb dL_aged_168 (by decide) ?_
              refine lv_icmp_ne (tgt := 208) hx hb dL_aged_178 (by decide) (fun c151 => ?_) (fun c151 => ?_)
              · have h := mm_neg c151 h
                cases h
              · have h := mm_pos c151 h
                refine lv_aload_n hx hb dL_aged_181 rfl (lv_at hl 2 rfl) ?_
                refine lv_iload_n hx hb dL_aged_182 rfl (lv_at hl 4 rfl) ?_
                refine lv_iconst (v := 3) hx hb dL_aged_183 (by decide) ?_
                obtain ⟨v161, e161, h⟩ := mm_bnd h
                refine md_goi hH hA (va_runV (As := [.int a2, .int 3]) (rest := []) ⟨hx, hb, C.2.2.1, C.2.2.2.1, C.2.2.2.2.1⟩ (ct_X4_of l G T b z a2 3 x e161) (cwV 2 C.2.2.2.2.1 gL_aged_X4_of rfl rfl rfl df_X4_of ⟨Nat.le_of_ble_eq_true rfl, Nat.le_of_ble_eq_true rfl⟩) ⟨mm_B.blind, mm_recvL (q := (RX4, TX4, 7)) C hH.1 kl_0 (mm_e4 kd_0) rfl, mm_preL C hH.1 hA⟩ rfl rfl hl.1 rfl (lv_room (Nat.le_of_ble_eq_true rfl)) dL_aged_184 ⟨Nat.zero_le _, Nat.zero_le _⟩) (fun H locs hH => ?_)
                refine lv_iload hx hb dL_aged_187 (lv_at hl 0 rfl) ?_
                refine lv_if_eq (tgt := 196) hx hb dL_aged_189 (by decide) (fun c => absurd c (by decide)) (fun _ => ?_)
                refine lv_iconst (v := 0) hx hb dL_aged_192 (by decide) ?_
                refine lv_goto (tgt := 201) hx hb dL_aged_193 (by decide) ?_
                refine lv_icmp_ne (tgt := 208) hx hb dL_aged_201 (by decide) (fun c152 => ?_) (fun c152 => ?_)
                · have h := mm_neg c152 h
                  cases h
                · have h := mm_pos c152 h
                  refine lv_iconst (v := 1) hx hb dL_aged_204 (by decide) ?_
                  refine lv_goto (tgt := 209) hx hb dL_aged_205 (by decide) ?_
                  refine lv_istore (lv' := [(8, .int 1), (7, .int 1), (3, .int v1), (0, .ref (b + 0)), (1, .ref ad), (2, .int a2)]) hx hb dL_aged_209 hl (by decide) rfl (fun ls hl => ?_)
                  refine lv_iload hx hb dL_aged_211 (lv_at hl 0 rfl) ?_
                  refine lv_if_eq (tgt := 279) hx hb dL_aged_213 (by decide) (fun c => absurd c (by decide)) (fun _ => ?_)
                  have hl := lv_sub (l' := [(7, .int 1), (3, .int v1), (0, .ref (b + 0)), (1, .ref ad), (2, .int a2)]) hl [1, 2, 3, 4, 5] rfl
                  refine lv_aload_n hx hb dL_aged_216 rfl (lv_at hl 2 rfl) ?_
                  refine lv_iload_n hx hb dL_aged_217 rfl (lv_at hl 4 rfl) ?_
                  refine lv_iconst (v := 4) hx hb dL_aged_218 (by decide) ?_
                  obtain ⟨v162, e162, h⟩ := mm_bnd h
                  refine md_goi hH hA (va_runV (As := [.int a2, .int 4]) (rest := []) ⟨hx, hb, C.2.2.1, C.2.2.2.1, C.2.2.2.2.1⟩ (ct_X4_of l G T b z a2 4 x e162) (cwV 2 C.2.2.2.2.1 gL_aged_X4_of rfl rfl rfl df_X4_of ⟨Nat.le_of_ble_eq_true rfl, Nat.le_of_ble_eq_true rfl⟩) ⟨mm_B.blind, mm_recvL (q := (RX4, TX4, 7)) C hH.1 kl_0 (mm_e4 kd_0) rfl, mm_preL C hH.1 hA⟩ rfl rfl hl.1 rfl (lv_room (Nat.le_of_ble_eq_true rfl)) dL_aged_219 ⟨Nat.zero_le _, Nat.zero_le _⟩) (fun H locs hH => ?_)
                  refine lv_iload hx hb dL_aged_222 (lv_at hl 0 rfl) ?_
                  refine lv_if_ne (tgt := 235) hx hb dL_aged_224 (by decide) (fun _ => ?_) (fun c => absurd c (by decide))
                  have hl := lv_sub (l' := [(3, .int v1), (0, .ref (b + 0)), (1, .ref ad), (2, .int a2)]) hl [1, 2, 3, 4] rfl
                  refine lv_iconst (v := 0) hx hb dL_aged_235 (by decide) ?_
                  refine lv_goto (tgt := 246) hx hb dL_aged_236 (by decide) ?_
                  refine lv_icmp_ne (tgt := 279) hx hb dL_aged_246 (by decide) (fun c153 => ?_) (fun c153 => ?_)
                  · have h := mm_neg c153 h
                    have hl := lv_sub (l' := []) hl [] rfl
                    cases h
                  · have h := mm_pos c153 h
                    refine lv_aload_n hx hb dL_aged_249 rfl (lv_at hl 1 rfl) ?_
                    refine lv_iload_n hx hb dL_aged_250 rfl (lv_at hl 3 rfl) ?_
                    refine lv_iconst (v := 0) hx hb dL_aged_251 (by decide) ?_
                    obtain ⟨v163, e163, h⟩ := mm_bnd h
                    refine md_goi hH hA (va_runV (As := [.int a2, .int 0]) (rest := []) ⟨hx, hb, C.2.2.1, C.2.2.2.1, C.2.2.2.2.1⟩ (ct_X4_of l G T b z a2 0 x e163) (cwV 2 C.2.2.2.2.1 gL_aged_X4_of rfl rfl rfl df_X4_of ⟨Nat.le_of_ble_eq_true rfl, Nat.le_of_ble_eq_true rfl⟩) ⟨mm_B.blind, mm_recvL (q := (RX4, TX4, 7)) C hH.1 kl_0 (mm_e4 kd_0) rfl, mm_preL C hH.1 hA⟩ rfl rfl hl.1 rfl (lv_room (Nat.le_of_ble_eq_true rfl)) dL_aged_252 ⟨Nat.zero_le _, Nat.zero_le _⟩) (fun H locs hH => ?_)
                    refine lv_aload_n hx hb dL_aged_255 rfl (lv_at hl 2 rfl) ?_
                    refine lv_iload_n hx hb dL_aged_256 rfl (lv_at hl 0 rfl) ?_
                    obtain ⟨g87, h⟩ := mm_grn h
                    refine md_dld C hH g87 dL_aged_257 ?_
                    refine lv_icmp_ne (tgt := 279) hx hb dL_aged_258 (by decide) (fun c154 => ?_) (fun c154 => ?_)
                    · have h := mm_neg c154 h
                      have hl := lv_sub (l' := []) hl [] rfl
                      cases h
                    · have h := mm_pos c154 h
                      refine lv_aload_n hx hb dL_aged_261 rfl (lv_at hl 1 rfl) ?_
                      refine lv_iload_n hx hb dL_aged_262 rfl (lv_at hl 3 rfl) ?_
                      refine lv_iconst (v := 1) hx hb dL_aged_263 (by decide) ?_
                      obtain ⟨v164, e164, h⟩ := mm_bnd h
                      refine md_goi hH hA (va_runV (As := [.int a2, .int 1]) (rest := []) ⟨hx, hb, C.2.2.1, C.2.2.2.1, C.2.2.2.2.1⟩ (ct_X4_of l G T b z a2 1 x e164) (cwV 2 C.2.2.2.2.1 gL_aged_X4_of rfl rfl rfl df_X4_of ⟨Nat.le_of_ble_eq_true rfl, Nat.le_of_ble_eq_true rfl⟩) ⟨mm_B.blind, mm_recvL (q := (RX4, TX4, 7)) C hH.1 kl_0 (mm_e4 kd_0) rfl, mm_preL C hH.1 hA⟩ rfl rfl hl.1 rfl (lv_room (Nat.le_of_ble_eq_true rfl)) dL_aged_264 ⟨Nat.zero_le _, Nat.zero_le _⟩) (fun H locs hH => ?_)
                      refine lv_aload_n hx hb dL_aged_267 rfl (lv_at hl 2 rfl) ?_
                      refine lv_iload_n hx hb dL_aged_268 rfl (lv_at hl 0 rfl) ?_
                      refine lv_iconst (v := 1) hx hb dL_aged_269 (by decide) ?_
                      refine lv_iadd hx hb dL_aged_270 ?_
                      obtain ⟨g88, h⟩ := mm_grn h
                      refine md_dld C hH g88 dL_aged_271 ?_
                      refine lv_icmp_ne (tgt := 279) hx hb dL_aged_272 (by decide) (fun c155 => ?_) (fun c155 => ?_)
                      · have h := mm_neg c155 h
                        have hl := lv_sub (l' := []) hl [] rfl
                        cases h
                      · have h := mm_pos c155 h
                        have hl := lv_sub (l' := []) hl [] rfl
                        refine lv_iconst (v := 1) hx hb dL_aged_275 (by decide) ?_
                        refine lv_goto (tgt := 280) hx hb dL_aged_276 (by decide) ?_
                        exact mm_iretP C hH.1 hr hlk rfl h dL_aged_280
          · have h := mm_neg c149 h
            have hl := lv_sub (l' := [(7, .int 1), (4, .int 1), (3, .int v1), (0, .ref (b + 0)), (1, .ref ad), (2, .int a2)]) hl [0, 2, 3, 4, 5, 6] rfl
            refine lv_aload_n hx hb dL_aged_130 rfl (lv_at hl 3 rfl) ?_
            refine lv_bipush (v := 12) hx hb dL_aged_131 (by decide) ?_
            obtain ⟨v165, e165, h⟩ := mm_bnd h
            refine md_goi hH hA (va_runV (As := [.int 12]) (rest := []) ⟨hx, hb, C.2.2.1, C.2.2.2.1, C.2.2.2.2.1⟩ (ct_X4_count l G T b z 12 x e165) (cwV 1 C.2.2.2.2.1 gL_aged_X4_count rfl rfl rfl df_X4_count ⟨Nat.le_of_ble_eq_true rfl, Nat.le_of_ble_eq_true rfl⟩) ⟨mm_B.blind, mm_recvL (q := (RX4, TX4, 7)) C hH.1 kl_0 (mm_e4 kd_0) rfl, mm_preL C hH.1 hA⟩ rfl rfl hl.1 rfl (lv_room (Nat.le_of_ble_eq_true rfl)) dL_aged_133 ⟨Nat.zero_le _, Nat.zero_le _⟩) (fun H locs hH => ?_)
            refine lv_iconst (v := 1) hx hb dL_aged_136 (by decide) ?_
            refine lv_isub hx hb dL_aged_137 ?_
            refine lv_goto (tgt := 143) hx hb dL_aged_138 (by decide) ?_
            obtain ⟨v166, e166, h⟩ := mm_bnd h
            refine mm_nmi e166 ?_
            refine lv_istore (lv' := [(5, .int v166), (7, .int 1), (4, .int 1), (3, .int v1), (0, .ref (b + 0)), (1, .ref ad), (2, .int a2)]) hx hb dL_aged_143 hl (by decide) rfl (fun ls hl => ?_)
            refine lv_aload_n hx hb dL_aged_145 rfl (lv_at hl 4 rfl) ?_
            refine lv_iload_n hx hb dL_aged_146 rfl (lv_at hl 6 rfl) ?_
            refine lv_iconst (v := 2) hx hb dL_aged_147 (by decide) ?_
            obtain ⟨v167, e167, h⟩ := mm_bnd h
            refine md_goi hH hA (va_runV (As := [.int a2, .int 2]) (rest := []) ⟨hx, hb, C.2.2.1, C.2.2.2.1, C.2.2.2.2.1⟩ (ct_X4_of l G T b z a2 2 x e167) (cwV 2 C.2.2.2.2.1 gL_aged_X4_of rfl rfl rfl df_X4_of ⟨Nat.le_of_ble_eq_true rfl, Nat.le_of_ble_eq_true rfl⟩) ⟨mm_B.blind, mm_recvL (q := (RX4, TX4, 7)) C hH.1 kl_0 (mm_e4 kd_0) rfl, mm_preL C hH.1 hA⟩ rfl rfl hl.1 rfl (lv_room (Nat.le_of_ble_eq_true rfl)) dL_aged_148 ⟨Nat.zero_le _, Nat.zero_le _⟩) (fun H locs hH => ?_)
            refine lv_iload hx hb dL_aged_151 (lv_at hl 0 rfl) ?_
            refine lv_icmp_ne (tgt := 208) hx hb dL_aged_153 (by decide) (fun c156 => ?_) (fun c156 => ?_)
            · have h := mm_neg c156 h
              have hl := lv_sub (l' := [(7, .int 1), (3, .int v1), (0, .ref (b + 0)), (1, .ref ad), (2, .int a2)]) hl [1, 3, 4, 5, 6] rfl
              cases h
            · have h := mm_pos c156 h
              have hl := lv_sub (l' := [(7, .int 1), (4, .int 1), (3, .int v1), (0, .ref (b + 0)), (1, .ref ad), (2, .int a2)]) hl [1, 2, 3, 4, 5, 6] rfl
              refine lv_aload_n hx hb dL_aged_156 rfl (lv_at hl 3 rfl) ?_
              refine lv_iload_n hx hb dL_aged_157 rfl (lv_at hl 5 rfl) ?_
              refine lv_iconst (v := 5) hx hb dL_aged_158 (by decide) ?_
              obtain ⟨v168, e168, h⟩ := mm_bnd h
              refine md_goi hH hA (va_runV (As := [.int a2, .int 5]) (rest := []) ⟨hx, hb, C.2.2.1, C.2.2.2.1, C.2.2.2.2.1⟩ (ct_X4_of l G T b z a2 5 x e168) (cwV 2 C.2.2.2.2.1 gL_aged_X4_of rfl rfl rfl df_X4_of ⟨Nat.le_of_ble_eq_true rfl, Nat.le_of_ble_eq_true rfl⟩) ⟨mm_B.blind, mm_recvL (q := (RX4, TX4, 7)) C hH.1 kl_0 (mm_e4 kd_0) rfl, mm_preL C hH.1 hA⟩ rfl rfl hl.1 rfl (lv_room (Nat.le_of_ble_eq_true rfl)) dL_aged_159 ⟨Nat.zero_le _, Nat.zero_le _⟩) (fun H locs hH => ?_)
              refine lv_iload hx hb dL_aged_162 (lv_at hl 1 rfl) ?_
              refine lv_if_eq (tgt := 171) hx hb dL_aged_164 (by decide) (fun c => absurd c (by decide)) (fun _ => ?_)
              have hl := lv_sub (l' := [(7, .int 1), (3, .int v1), (0, .ref (b + 0)), (1, .ref ad), (2, .int a2)]) hl [0, 2, 3, 4, 5] rfl
              refine lv_iconst (v := 0) hx hb dL_aged_167 (by decide) ?_
              refine lv_goto (tgt := 178) hx hb dL_aged_168 (by decide) ?_
              refine lv_icmp_ne (tgt := 208) hx hb dL_aged_178 (by decide) (fun c157 => ?_) (fun c157 => ?_)
              · have h := mm_neg c157 h
                cases h
              · have h := mm_pos c157 h
                refine lv_aload_n hx hb dL_aged_181 rfl (lv_at hl 2 rfl) ?_
                refine lv_iload_n hx hb dL_aged_182 rfl (lv_at hl 4 rfl) ?_
                refine lv_iconst (v := 3) hx hb dL_aged_183 (by decide) ?_
                obtain ⟨v169, e169, h⟩ := mm_bnd h
                refine md_goi hH hA (va_runV (As := [.int a2, .int 3]) (rest := []) ⟨hx, hb, C.2.2.1, C.2.2.2.1, C.2.2.2.2.1⟩ (ct_X4_of l G T b z a2 3 x e169) (cwV 2 C.2.2.2.2.1 gL_aged_X4_of rfl rfl rfl df_X4_of ⟨Nat.le_of_ble_eq_true rfl, Nat.le_of_ble_eq_true rfl⟩) ⟨mm_B.blind, mm_recvL (q := (RX4, TX4, 7)) C hH.1 kl_0 (mm_e4 kd_0) rfl, mm_preL C hH.1 hA⟩ rfl rfl hl.1 rfl (lv_room (Nat.le_of_ble_eq_true rfl)) dL_aged_184 ⟨Nat.zero_le _, Nat.zero_le _⟩) (fun H locs hH => ?_)
                refine lv_iload hx hb dL_aged_187 (lv_at hl 0 rfl) ?_
                refine lv_if_eq (tgt := 196) hx hb dL_aged_189 (by decide) (fun c => absurd c (by decide)) (fun _ => ?_)
                refine lv_iconst (v := 0) hx hb dL_aged_192 (by decide) ?_
                refine lv_goto (tgt := 201) hx hb dL_aged_193 (by decide) ?_
                refine lv_icmp_ne (tgt := 208) hx hb dL_aged_201 (by decide) (fun c158 => ?_) (fun c158 => ?_)
                · have h := mm_neg c158 h
                  cases h
                · have h := mm_pos c158 h
                  refine lv_iconst (v := 1) hx hb dL_aged_204 (by decide) ?_
                  refine lv_goto (tgt := 209) hx hb dL_aged_205 (by decide) ?_
                  refine lv_istore (lv' := [(8, .int 1), (7, .int 1), (3, .int v1), (0, .ref (b + 0)), (1, .ref ad), (2, .int a2)]) hx hb dL_aged_209 hl (by decide) rfl (fun ls hl => ?_)
                  refine lv_iload hx hb dL_aged_211 (lv_at hl 0 rfl) ?_
                  refine lv_if_eq (tgt := 279) hx hb dL_aged_213 (by decide) (fun c => absurd c (by decide)) (fun _ => ?_)
                  have hl := lv_sub (l' := [(7, .int 1), (3, .int v1), (0, .ref (b + 0)), (1, .ref ad), (2, .int a2)]) hl [1, 2, 3, 4, 5] rfl
                  refine lv_aload_n hx hb dL_aged_216 rfl (lv_at hl 2 rfl) ?_
                  refine lv_iload_n hx hb dL_aged_217 rfl (lv_at hl 4 rfl) ?_
                  refine lv_iconst (v := 4) hx hb dL_aged_218 (by decide) ?_
                  obtain ⟨v170, e170, h⟩ := mm_bnd h
                  refine md_goi hH hA (va_runV (As := [.int a2, .int 4]) (rest := []) ⟨hx, hb, C.2.2.1, C.2.2.2.1, C.2.2.2.2.1⟩ (ct_X4_of l G T b z a2 4 x e170) (cwV 2 C.2.2.2.2.1 gL_aged_X4_of rfl rfl rfl df_X4_of ⟨Nat.le_of_ble_eq_true rfl, Nat.le_of_ble_eq_true rfl⟩) ⟨mm_B.blind, mm_recvL (q := (RX4, TX4, 7)) C hH.1 kl_0 (mm_e4 kd_0) rfl, mm_preL C hH.1 hA⟩ rfl rfl hl.1 rfl (lv_room (Nat.le_of_ble_eq_true rfl)) dL_aged_219 ⟨Nat.zero_le _, Nat.zero_le _⟩) (fun H locs hH => ?_)
                  refine lv_iload hx hb dL_aged_222 (lv_at hl 0 rfl) ?_
                  refine lv_if_ne (tgt := 235) hx hb dL_aged_224 (by decide) (fun _ => ?_) (fun c => absurd c (by decide))
                  have hl := lv_sub (l' := [(3, .int v1), (0, .ref (b + 0)), (1, .ref ad), (2, .int a2)]) hl [1, 2, 3, 4] rfl
                  refine lv_iconst (v := 0) hx hb dL_aged_235 (by decide) ?_
                  refine lv_goto (tgt := 246) hx hb dL_aged_236 (by decide) ?_
                  refine lv_icmp_ne (tgt := 279) hx hb dL_aged_246 (by decide) (fun c159 => ?_) (fun c159 => ?_)
                  · have h := mm_neg c159 h
                    have hl := lv_sub (l' := []) hl [] rfl
                    cases h
                  · have h := mm_pos c159 h
                    refine lv_aload_n hx hb dL_aged_249 rfl (lv_at hl 1 rfl) ?_
                    refine lv_iload_n hx hb dL_aged_250 rfl (lv_at hl 3 rfl) ?_
                    refine lv_iconst (v := 0) hx hb dL_aged_251 (by decide) ?_
                    obtain ⟨v171, e171, h⟩ := mm_bnd h
                    refine md_goi hH hA (va_runV (As := [.int a2, .int 0]) (rest := []) ⟨hx, hb, C.2.2.1, C.2.2.2.1, C.2.2.2.2.1⟩ (ct_X4_of l G T b z a2 0 x e171) (cwV 2 C.2.2.2.2.1 gL_aged_X4_of rfl rfl rfl df_X4_of ⟨Nat.le_of_ble_eq_true rfl, Nat.le_of_ble_eq_true rfl⟩) ⟨mm_B.blind, mm_recvL (q := (RX4, TX4, 7)) C hH.1 kl_0 (mm_e4 kd_0) rfl, mm_preL C hH.1 hA⟩ rfl rfl hl.1 rfl (lv_room (Nat.le_of_ble_eq_true rfl)) dL_aged_252 ⟨Nat.zero_le _, Nat.zero_le _⟩) (fun H locs hH => ?_)
                    refine lv_aload_n hx hb dL_aged_255 rfl (lv_at hl 2 rfl) ?_
                    refine lv_iload_n hx hb dL_aged_256 rfl (lv_at hl 0 rfl) ?_
                    obtain ⟨g89, h⟩ := mm_grn h
                    refine md_dld C hH g89 dL_aged_257 ?_
                    refine lv_icmp_ne (tgt := 279) hx hb dL_aged_258 (by decide) (fun c160 => ?_) (fun c160 => ?_)
                    · have h := mm_neg c160 h
                      have hl := lv_sub (l' := []) hl [] rfl
                      cases h
                    · have h := mm_pos c160 h
                      refine lv_aload_n hx hb dL_aged_261 rfl (lv_at hl 1 rfl) ?_
                      refine lv_iload_n hx hb dL_aged_262 rfl (lv_at hl 3 rfl) ?_
                      refine lv_iconst (v := 1) hx hb dL_aged_263 (by decide) ?_
                      obtain ⟨v172, e172, h⟩ := mm_bnd h
                      refine md_goi hH hA (va_runV (As := [.int a2, .int 1]) (rest := []) ⟨hx, hb, C.2.2.1, C.2.2.2.1, C.2.2.2.2.1⟩ (ct_X4_of l G T b z a2 1 x e172) (cwV 2 C.2.2.2.2.1 gL_aged_X4_of rfl rfl rfl df_X4_of ⟨Nat.le_of_ble_eq_true rfl, Nat.le_of_ble_eq_true rfl⟩) ⟨mm_B.blind, mm_recvL (q := (RX4, TX4, 7)) C hH.1 kl_0 (mm_e4 kd_0) rfl, mm_preL C hH.1 hA⟩ rfl rfl hl.1 rfl (lv_room (Nat.le_of_ble_eq_true rfl)) dL_aged_264 ⟨Nat.zero_le _, Nat.zero_le _⟩) (fun H locs hH => ?_)
                      refine lv_aload_n hx hb dL_aged_267 rfl (lv_at hl 2 rfl) ?_
                      refine lv_iload_n hx hb dL_aged_268 rfl (lv_at hl 0 rfl) ?_
                      refine lv_iconst (v := 1) hx hb dL_aged_269 (by decide) ?_
                      refine lv_iadd hx hb dL_aged_270 ?_
                      obtain ⟨g90, h⟩ := mm_grn h
                      refine md_dld C hH g90 dL_aged_271 ?_
                      refine lv_icmp_ne (tgt := 279) hx hb dL_aged_272 (by decide) (fun c161 => ?_) (fun c161 => ?_)
                      · have h := mm_neg c161 h
                        have hl := lv_sub (l' := []) hl [] rfl
                        cases h
                      · have h := mm_pos c161 h
                        have hl := lv_sub (l' := []) hl [] rfl
                        refine lv_iconst (v := 1) hx hb dL_aged_275 (by decide) ?_
                        refine lv_goto (tgt := 280) hx hb dL_aged_276 (by decide) ?_
                        exact mm_iretP C hH.1 hr hlk rfl h dL_aged_280
def fn_L_passed_18 : Nat → (Nat → Int32) → Int32 → Int32 → Int32 → Int32 → mm_M → Option Int32
  | 0, _, _, _, _, _, _ => none
  | n + 1, dd, a2, a3, i4, i5, x => (fn_X4_count 1 x).bind fun v1 => if v1 ≤ i5 then some (i4) else (fn_L_aged dd i5 x).bind fun v2 => if v2 = 0 then none else if (((8 : Int32) * i5) + 3) < 0 ∨ 64 ≤ Int32.toNatClampNeg (((8 : Int32) * i5) + 3) then none else (fn_X4_of i5 3 x).bind fun v3 => (some ((i4 + ((dd (Int32.toNatClampNeg (((8 : Int32) * i5) + 3))) - v3)) : Int32)).bind fun v4 => (some (i5 + 1)).bind fun v5 => fn_L_passed_18 n dd a2 a3 v4 v5 x
def fn_L_passed_71 : Nat → Int32 → Int32 → Int32 → Int32 → mm_M → Option Unit
  | 0, _, _, _, _, _ => none
  | n + 1, a2, a3, a4, i5, x => if a3 ≤ i5 then some () else (fn_X4_log i5 0 x).bind fun v1 => if v1 = 4 then (fn_X4_log i5 1 x).bind fun v2 => (fn_X4_of v2 3 x).bind fun v3 => if v3 = 0 then (some (i5 + 1)).bind fun v4 => fn_L_passed_71 n a2 a3 a4 v4 x else none else none
def fn_L_passed (dd : Nat → Int32) (x : mm_M) : Option (mm_M × Int32) :=
  (fn_X4_count 0 x).bind fun v1 => mm_b2 (fn_X4_pass 1 x) fun x1 v2 => (fn_L_passed_18 9 dd v1 v2 0 0 x1).bind fun v3 => (fn_L_passed_71 9 v1 v2 v3 0 x1).bind fun _ => if v2 = v3 then (fn_X4_count 0 x1).bind fun v4 => if v4 = (v1 + 1) then some (x1, 1) else none else none
abbrev rm_L_passed : Room := { frames := 6, cells := 0, slots := 0, locals := 131 }
theorem df_L_passed : yL_passed.cls = RL ∧ yL_passed.cls ≠ "java/lang/invoke/MethodHandle" ∧ yL_passed.cls ≠ "java/lang/invoke/VarHandle" ∧ (parseMethodDescriptor yL_passed.desc).map (fun d => d.parameters.length) = some 2 := by decide +kernel
set_option maxRecDepth 100000 in
set_option maxHeartbeats 4000000 in
theorem lp_L_passed_18 {p : Program} {l : Launch} {e : Env} {s : State} {m : MethodId} {args : Array Value} {below : List Frame} {meth : Method} {c : Code} {Q : State → Prop} {G : va_G} {T : Nat → ClassId} {b : Nat} {z : Nat → Nat} (C : mm_C p m c cL_passed 6 s args wsL_passed RL G T b z) {ad : Nat} (dd : (Nat → Int32)) (a2 : Int32) (a3 : Int32) : ∀ (n : Nat) (i4 : Int32) (i5 : Int32) (x : mm_M) (H : Heap) (locs : List Loc) (ls : Array Slot) (r4 : Int32), fn_L_passed_18 n dd a2 a3 i4 i5 x = some (r4) → mm_D (mm_A b) G T b x ad dd s H locs → lv_has ls 6 [(0, .ref (b + 0)), (1, .ref ad), (2, .int a2), (3, .int a3), (4, .int i4), (5, .int i5)] → (∀ (H1 : Heap) (locs1 : List Loc) (ls1 : Array Slot), mm_D (mm_A b) G T b x ad dd s H1 locs1 → lv_has ls1 6 [(0, .ref (b + 0)), (2, .int a2), (3, .int a3), (4, .int r4)] → W p l e rm_L_passed s m args below meth c H1 locs1 0 0 Q (F0 m 68 ls1 [])) → W p l e rm_L_passed s m args below meth c H locs 0 0 Q (F0 m 18 ls []) := by
  have hx := C.1
  have hb := C.2.1
  have hA := mm_AAr (b := b)
  intro n
  induction n with
  | zero => intro _ _ _ _ _ _ _ h; cases (show (none : Option Int32) = some _ from h)
  | succ n ih =>
    intro i4 i5 x H locs ls r4 h hH hl kk
    rw [fn_L_passed_18] at h
    refine lv_iload hx hb dL_passed_18 (lv_at hl 5 rfl) ?_
    refine lv_aload_n hx hb dL_passed_20 rfl (lv_at hl 0 rfl) ?_
    refine lv_iconst (v := 1) hx hb dL_passed_21 (by decide) ?_
    obtain ⟨v1, e1, h⟩ := mm_bnd h
    refine md_goi hH hA (va_runV (As := [.int 1]) (rest := [.int i5]) ⟨hx, hb, C.2.2.1, C.2.2.2.1, C.2.2.2.2.1⟩ (ct_X4_count l G T b z 1 x e1) (cwV 1 C.2.2.2.2.1 gL_passed_X4_count rfl rfl rfl df_X4_count ⟨Nat.le_of_ble_eq_true rfl, Nat.le_of_ble_eq_true rfl⟩) ⟨mm_B.blind, mm_recvL (q := (RX4, TX4, 7)) C hH.1 kl_0 (mm_e4 kd_0) rfl, mm_preL C hH.1 hA⟩ rfl rfl hl.1 rfl (lv_room (Nat.le_of_ble_eq_true rfl)) dL_passed_22 ⟨Nat.zero_le _, Nat.zero_le _⟩) (fun H locs hH => ?_)
    refine lv_icmp_ge (tgt := 68) hx hb dL_passed_25 (by decide) (fun c1 => ?_) (fun c1 => ?_)
    · have h := mm_pos c1 h
      have hl := lv_sub (l' := [(0, .ref (b + 0)), (2, .int a2), (3, .int a3), (4, .int i4)]) hl [0, 2, 3, 4] rfl
      cases h
      exact kk _ _ _ hH (lv_sub hl [0, 1, 2, 3] rfl)
    · have h := mm_neg c1 h
      refine lv_aload_n hx hb dL_passed_28 rfl (lv_at hl 0 rfl) ?_
      refine lv_aload_n hx hb dL_passed_29 rfl (lv_at hl 1 rfl) ?_
      refine lv_iload hx hb dL_passed_30 (lv_at hl 5 rfl) ?_
      obtain ⟨v2, e2, h⟩ := mm_bnd h
      refine md_goi hH hA (va_runS (As := [.ref (b + 0), .ref ad, .int i5]) (rest := []) ⟨hx, hb, C.2.2.1, C.2.2.2.1, C.2.2.2.2.1⟩ (ct_L_aged l G T b z ad dd i5 x e2) (va_cwS 3 C.2.2.2.2.1 gL_passed_L_aged rfl rfl rfl df_L_aged.2 ⟨Nat.le_of_ble_eq_true rfl, Nat.le_of_ble_eq_true rfl⟩) ⟨mm_BD.blind, mm_preD C hH hA⟩ rfl rfl hl.1 rfl (lv_room (Nat.le_of_ble_eq_true rfl)) dL_passed_32 ⟨Nat.zero_le _, Nat.zero_le _⟩) (fun H locs hH => ?_)
      refine lv_if_ne (tgt := 40) hx hb dL_passed_35 (by decide) (fun c2 => ?_) (fun c2 => ?_)
      · have h := mm_neg c2 h
        refine lv_iload hx hb dL_passed_40 (lv_at hl 4 rfl) ?_
        refine lv_aload_n hx hb dL_passed_42 rfl (lv_at hl 1 rfl) ?_
        refine lv_bipush (v := 8) hx hb dL_passed_43 (by decide) ?_
        refine lv_iload hx hb dL_passed_45 (lv_at hl 5 rfl) ?_
        refine lv_imul hx hb dL_passed_47 ?_
        refine lv_iconst (v := 3) hx hb dL_passed_48 (by decide) ?_
        refine lv_iadd hx hb dL_passed_49 ?_
        obtain ⟨g1, h⟩ := mm_grn h
        refine md_dld C hH g1 dL_passed_50 ?_
        refine lv_aload_n hx hb dL_passed_51 rfl (lv_at hl 0 rfl) ?_
        refine lv_iload hx hb dL_passed_52 (lv_at hl 5 rfl) ?_
        refine lv_iconst (v := 3) hx hb dL_passed_54 (by decide) ?_
        obtain ⟨v3, e3, h⟩ := mm_bnd h
        refine md_goi hH hA (va_runV (As := [.int i5, .int 3]) (rest := [.int (dd (Int32.toNatClampNeg (((8 : Int32) * i5) + 3))), .int i4]) ⟨hx, hb, C.2.2.1, C.2.2.2.1, C.2.2.2.2.1⟩ (ct_X4_of l G T b z i5 3 x e3) (cwV 2 C.2.2.2.2.1 gL_passed_X4_of rfl rfl rfl df_X4_of ⟨Nat.le_of_ble_eq_true rfl, Nat.le_of_ble_eq_true rfl⟩) ⟨mm_B.blind, mm_recvL (q := (RX4, TX4, 7)) C hH.1 kl_0 (mm_e4 kd_0) rfl, mm_preL C hH.1 hA⟩ rfl rfl hl.1 rfl (lv_room (Nat.le_of_ble_eq_true rfl)) dL_passed_55 ⟨Nat.zero_le _, Nat.zero_le _⟩) (fun H locs hH => ?_)
        refine lv_isub hx hb dL_passed_58 ?_
        refine lv_iadd hx hb dL_passed_59 ?_
        obtain ⟨v4, e4, h⟩ := mm_bnd h
        refine mm_nmi e4 ?_
        refine lv_istore (lv' := [(4, .int v4), (0, .ref (b + 0)), (1, .ref ad), (2, .int a2), (3, .int a3), (5, .int i5)]) hx hb dL_passed_60 hl (by decide) rfl (fun ls hl => ?_)
        obtain ⟨v5, e5, h⟩ := mm_bnd h
        refine lv_iinc (v := v5) (lv' := [(5, .int v5), (4, .int v4), (0, .ref (b + 0)), (1, .ref ad), (2, .int a2), (3, .int a3)]) hx hb dL_passed_62 hl (k := 5) rfl (Option.some.inj e5) (by decide) rfl (fun ls hl => ?_)
        refine lv_goto (tgt := 18) hx hb dL_passed_65 (by decide) ?_
        exact ih v4 v5 x _ _ _ _ h hH (lv_sub hl [2, 3, 4, 5, 1, 0] rfl) kk
      · have h := mm_pos c2 h
        have hl := lv_sub (l' := []) hl [] rfl
        cases h
set_option maxRecDepth 100000 in
set_option maxHeartbeats 4000000 in
theorem lp_L_passed_71 {p : Program} {l : Launch} {e : Env} {s : State} {m : MethodId} {args : Array Value} {below : List Frame} {meth : Method} {c : Code} {Q : State → Prop} {G : va_G} {T : Nat → ClassId} {b : Nat} {z : Nat → Nat} (C : mm_C p m c cL_passed 6 s args wsL_passed RL G T b z) {ad : Nat} {dd : Nat → Int32} (a2 : Int32) (a3 : Int32) (a4 : Int32) : ∀ (n : Nat) (i5 : Int32) (x : mm_M) (H : Heap) (locs : List Loc) (ls : Array Slot) , fn_L_passed_71 n a2 a3 a4 i5 x = some () → mm_D (mm_A b) G T b x ad dd s H locs → lv_has ls 6 [(0, .ref (b + 0)), (2, .int a2), (3, .int a3), (4, .int a4), (5, .int i5)] → (∀ (H1 : Heap) (locs1 : List Loc) (ls1 : Array Slot), mm_D (mm_A b) G T b x ad dd s H1 locs1 → lv_has ls1 6 [(0, .ref (b + 0)), (2, .int a2), (3, .int a3), (4, .int a4)] → W p l e rm_L_passed s m args below meth c H1 locs1 0 0 Q (F0 m 111 ls1 [])) → W p l e rm_L_passed s m args below meth c H locs 0 0 Q (F0 m 71 ls []) := by
  have hx := C.1
  have hb := C.2.1
  have hA := mm_AAr (b := b)
  intro n
  induction n with
  | zero => intro _ _ _ _ _ h; cases (show (none : Option Unit) = some _ from h)
  | succ n ih =>
    intro i5 x H locs ls  h hH hl kk
    rw [fn_L_passed_71] at h
    refine lv_iload hx hb dL_passed_71 (lv_at hl 4 rfl) ?_
    refine lv_iload_n hx hb dL_passed_73 rfl (lv_at hl 2 rfl) ?_
    refine lv_icmp_ge (tgt := 111) hx hb dL_passed_74 (by decide) (fun c1 => ?_) (fun c1 => ?_)
    · have h := mm_pos c1 h
      have hl := lv_sub (l' := [(0, .ref (b + 0)), (2, .int a2), (3, .int a3), (4, .int a4)]) hl [0, 1, 2, 3] rfl
      clear h
      exact kk _ _ _ hH (lv_sub hl [0, 1, 2, 3] rfl)
    · have h := mm_neg c1 h
      refine lv_aload_n hx hb dL_passed_77 rfl (lv_at hl 0 rfl) ?_
      refine lv_iload hx hb dL_passed_78 (lv_at hl 4 rfl) ?_
      refine lv_iconst (v := 0) hx hb dL_passed_80 (by decide) ?_
      obtain ⟨v1, e1, h⟩ := mm_bnd h
      refine md_goi hH hA (va_runV (As := [.int i5, .int 0]) (rest := []) ⟨hx, hb, C.2.2.1, C.2.2.2.1, C.2.2.2.2.1⟩ (ct_X4_log l G T b z i5 0 x e1) (cwV 2 C.2.2.2.2.1 gL_passed_X4_log rfl rfl rfl df_X4_log ⟨Nat.le_of_ble_eq_true rfl, Nat.le_of_ble_eq_true rfl⟩) ⟨mm_B.blind, mm_recvL (q := (RX4, TX4, 7)) C hH.1 kl_0 (mm_e4 kd_0) rfl, mm_preL C hH.1 hA⟩ rfl rfl hl.1 rfl (lv_room (Nat.le_of_ble_eq_true rfl)) dL_passed_81 ⟨Nat.zero_le _, Nat.zero_le _⟩) (fun H locs hH => ?_)
      refine lv_iconst (v := 4) hx hb dL_passed_84 (by decide) ?_
      refine lv_icmp_ne (tgt := 103) hx hb dL_passed_85 (by decide) (fun c2 => ?_) (fun c2 => ?_)
      · have h := mm_neg c2 h
        have hl := lv_sub (l' := []) hl [] rfl
        cases h
      · have h := mm_pos c2 h
        refine lv_aload_n hx hb dL_passed_88 rfl (lv_at hl 0 rfl) ?_
        refine lv_aload_n hx hb dL_passed_89 rfl (lv_at hl 0 rfl) ?_
        refine lv_iload hx hb dL_passed_90 (lv_at hl 4 rfl) ?_
        refine lv_iconst (v := 1) hx hb dL_passed_92 (by decide) ?_
        obtain ⟨v2, e2, h⟩ := mm_bnd h
        refine md_goi hH hA (va_runV (As := [.int i5, .int 1]) (rest := [.ref (b + 0)]) ⟨hx, hb, C.2.2.1, C.2.2.2.1, C.2.2.2.2.1⟩ (ct_X4_log l G T b z i5 1 x e2) (cwV 2 C.2.2.2.2.1 gL_passed_X4_log rfl rfl rfl df_X4_log ⟨Nat.le_of_ble_eq_true rfl, Nat.le_of_ble_eq_true rfl⟩) ⟨mm_B.blind, mm_recvL (q := (RX4, TX4, 7)) C hH.1 kl_0 (mm_e4 kd_0) rfl, mm_preL C hH.1 hA⟩ rfl rfl hl.1 rfl (lv_room (Nat.le_of_ble_eq_true rfl)) dL_passed_93 ⟨Nat.zero_le _, Nat.zero_le _⟩) (fun H locs hH => ?_)
        refine lv_iconst (v := 3) hx hb dL_passed_96 (by decide) ?_
        obtain ⟨v3, e3, h⟩ := mm_bnd h
        refine md_goi hH hA (va_runV (As := [.int v2, .int 3]) (rest := []) ⟨hx, hb, C.2.2.1, C.2.2.2.1, C.2.2.2.2.1⟩ (ct_X4_of l G T b z v2 3 x e3) (cwV 2 C.2.2.2.2.1 gL_passed_X4_of rfl rfl rfl df_X4_of ⟨Nat.le_of_ble_eq_true rfl, Nat.le_of_ble_eq_true rfl⟩) ⟨mm_B.blind, mm_recvL (q := (RX4, TX4, 7)) C hH.1 kl_0 (mm_e4 kd_0) rfl, mm_preL C hH.1 hA⟩ rfl rfl hl.1 rfl (lv_room (Nat.le_of_ble_eq_true rfl)) dL_passed_97 ⟨Nat.zero_le _, Nat.zero_le _⟩) (fun H locs hH => ?_)
        refine lv_if_eq (tgt := 105) hx hb dL_passed_100 (by decide) (fun c3 => ?_) (fun c3 => ?_)
        · have h := mm_pos c3 h
          obtain ⟨v4, e4, h⟩ := mm_bnd h
          refine lv_iinc (v := v4) (lv' := [(5, .int v4), (0, .ref (b + 0)), (2, .int a2), (3, .int a3), (4, .int a4)]) hx hb dL_passed_105 hl (k := 4) rfl (Option.some.inj e4) (by decide) rfl (fun ls hl => ?_)
          refine lv_goto (tgt := 71) hx hb dL_passed_108 (by decide) ?_
          exact ih v4 x _ _ _  h hH (lv_sub hl [1, 2, 3, 4, 0] rfl) kk
        · have h := mm_neg c3 h
          have hl := lv_sub (l' := []) hl [] rfl
          cases h
set_option maxRecDepth 100000 in
set_option maxHeartbeats 4000000 in
theorem ct_L_passed (l : Launch) (G : va_G) (T : Nat → ClassId) (b : Nat) (z : Nat → Nat) (ad : Nat) (dd : Nat → Int32) (x : mm_M) {x1 : mm_M} {r : Int32} (h : fn_L_passed dd x = some (x1, r)) : mm_CiD l yL_passed wsL_passed rm_L_passed G T b z ad dd [.ref (b + 0), .ref ad] x r x1 := by
  unfold fn_L_passed at h
  refine md_start (cc := cL_passed) (maxL := 6) (ret := (some .boolean)) (by decide) rfl (Nat.le_of_ble_eq_true rfl) (fun p e s m below meth c ls C hr hlk hH hl => ?_)
  have hl : lv_has ls 6 [(0, .ref (b + 0)), (1, .ref ad)] := hl
  have hx := C.1
  have hb := C.2.1
  have hA := mm_AAr (b := b)
  refine lv_aload_n hx hb dL_passed_0 rfl (lv_at hl 0 rfl) ?_
  refine lv_iconst (v := 0) hx hb dL_passed_1 (by decide) ?_
  obtain ⟨v1, e1, h⟩ := mm_bnd h
  refine md_goi hH hA (va_runV (As := [.int 0]) (rest := []) ⟨hx, hb, C.2.2.1, C.2.2.2.1, C.2.2.2.2.1⟩ (ct_X4_count l G T b z 0 x e1) (cwV 1 C.2.2.2.2.1 gL_passed_X4_count rfl rfl rfl df_X4_count ⟨Nat.le_of_ble_eq_true rfl, Nat.le_of_ble_eq_true rfl⟩) ⟨mm_B.blind, mm_recvL (q := (RX4, TX4, 7)) C hH.1 kl_0 (mm_e4 kd_0) rfl, mm_preL C hH.1 hA⟩ rfl rfl hl.1 rfl (lv_room (Nat.le_of_ble_eq_true rfl)) dL_passed_2 ⟨Nat.zero_le _, Nat.zero_le _⟩) (fun H locs hH => ?_)
  refine lv_istore_n (lv' := [(2, .int v1), (0, .ref (b + 0)), (1, .ref ad)]) hx hb dL_passed_5 rfl hl (by decide) rfl (fun ls hl => ?_)
  refine lv_aload_n hx hb dL_passed_6 rfl (lv_at hl 1 rfl) ?_
  refine lv_iconst (v := 1) hx hb dL_passed_7 (by decide) ?_
  obtain ⟨x1, v2, e2, h⟩ := mm_bnd2 h
  refine md_goi hH hA (va_runV (As := [.int 1]) (rest := []) ⟨hx, hb, C.2.2.1, C.2.2.2.1, C.2.2.2.2.1⟩ (ct_X4_pass l G T b z 1 x e2) (cwV 1 C.2.2.2.2.1 gL_passed_X4_pass rfl rfl rfl df_X4_pass ⟨Nat.le_of_ble_eq_true rfl, Nat.le_of_ble_eq_true rfl⟩) ⟨mm_B.blind, mm_recvL (q := (RX4, TX4, 7)) C hH.1 kl_0 (mm_e4 kd_0) rfl, mm_preL C hH.1 hA⟩ rfl rfl hl.1 rfl (lv_room (Nat.le_of_ble_eq_true rfl)) dL_passed_8 ⟨Nat.zero_le _, Nat.zero_le _⟩) (fun H locs hH => ?_)
  refine lv_istore_n (lv' := [(3, .int v2), (2, .int v1), (0, .ref (b + 0)), (1, .ref ad)]) hx hb dL_passed_11 rfl hl (by decide) rfl (fun ls hl => ?_)
  refine lv_iconst (v := 0) hx hb dL_passed_12 (by decide) ?_
  refine lv_istore (lv' := [(4, .int 0), (3, .int v2), (2, .int v1), (0, .ref (b + 0)), (1, .ref ad)]) hx hb dL_passed_13 hl (by decide) rfl (fun ls hl => ?_)
  refine lv_iconst (v := 0) hx hb dL_passed_15 (by decide) ?_
  refine lv_istore (lv' := [(5, .int 0), (4, .int 0), (3, .int v2), (2, .int v1), (0, .ref (b + 0)), (1, .ref ad)]) hx hb dL_passed_16 hl (by decide) rfl (fun ls hl => ?_)
  obtain ⟨v3, e3, h⟩ := mm_bnd h
  refine lp_L_passed_18 C dd v1 v2 9 0 0 x1 _ _ _ _ e3 hH (lv_sub hl [4, 5, 3, 2, 1, 0] rfl) (fun H locs ls hH hl => ?_)
  refine lv_iconst (v := 0) hx hb dL_passed_68 (by decide) ?_
  refine lv_istore (lv' := [(5, .int 0), (0, .ref (b + 0)), (2, .int v1), (3, .int v2), (4, .int v3)]) hx hb dL_passed_69 hl (by decide) rfl (fun ls hl => ?_)
  obtain ⟨⟨⟩, e4, h⟩ := mm_bnd h
  refine lp_L_passed_71 C v1 v2 v3 9 0 x1 _ _ _ e4 hH (lv_sub hl [1, 2, 3, 4, 0] rfl) (fun H locs ls hH hl => ?_)
  refine lv_iload_n hx hb dL_passed_111 rfl (lv_at hl 2 rfl) ?_
  refine lv_iload hx hb dL_passed_112 (lv_at hl 3 rfl) ?_
  refine lv_icmp_ne (tgt := 132) hx hb dL_passed_114 (by decide) (fun c1 => ?_) (fun c1 => ?_)
  · have h := mm_neg c1 h
    have hl := lv_sub (l' := []) hl [] rfl
    cases h
  · have h := mm_pos c1 h
    have hl := lv_sub (l' := [(0, .ref (b + 0)), (2, .int v1)]) hl [0, 1] rfl
    refine lv_aload_n hx hb dL_passed_117 rfl (lv_at hl 0 rfl) ?_
    refine lv_iconst (v := 0) hx hb dL_passed_118 (by decide) ?_
    obtain ⟨v4, e5, h⟩ := mm_bnd h
    refine md_goi hH hA (va_runV (As := [.int 0]) (rest := []) ⟨hx, hb, C.2.2.1, C.2.2.2.1, C.2.2.2.2.1⟩ (ct_X4_count l G T b z 0 x1 e5) (cwV 1 C.2.2.2.2.1 gL_passed_X4_count rfl rfl rfl df_X4_count ⟨Nat.le_of_ble_eq_true rfl, Nat.le_of_ble_eq_true rfl⟩) ⟨mm_B.blind, mm_recvL (q := (RX4, TX4, 7)) C hH.1 kl_0 (mm_e4 kd_0) rfl, mm_preL C hH.1 hA⟩ rfl rfl hl.1 rfl (lv_room (Nat.le_of_ble_eq_true rfl)) dL_passed_119 ⟨Nat.zero_le _, Nat.zero_le _⟩) (fun H locs hH => ?_)
    refine lv_iload_n hx hb dL_passed_122 rfl (lv_at hl 1 rfl) ?_
    refine lv_iconst (v := 1) hx hb dL_passed_123 (by decide) ?_
    refine lv_iadd hx hb dL_passed_124 ?_
    refine lv_icmp_ne (tgt := 132) hx hb dL_passed_125 (by decide) (fun c2 => ?_) (fun c2 => ?_)
    · have h := mm_neg c2 h
      have hl := lv_sub (l' := []) hl [] rfl
      cases h
    · have h := mm_pos c2 h
      have hl := lv_sub (l' := []) hl [] rfl
      refine lv_iconst (v := 1) hx hb dL_passed_128 (by decide) ?_
      refine lv_goto (tgt := 133) hx hb dL_passed_129 (by decide) ?_
      exact mm_iret C hH.1 hr hlk rfl h dL_passed_133
