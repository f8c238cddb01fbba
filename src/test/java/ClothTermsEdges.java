/** The sentences of '## Terms' ahead of its parts and under 2: the cloth, its colours and floats, and how it hangs. */
final class ClothTermsEdges {
    private static final String[] CHAIN = {"#.######", ".#.#####", "..#.####", "...#.###", "....#.##", ".....#.#",
        "......#.", ".......#"};

    private ClothTermsEdges() {
    }

    static void check() {
        Sentences.promisesNothing("Terms", "Its calls: programs are written token by token, with groups, repeats,"
                + " mirrors and blocks, and compiled to rows of numbers; treadles are tied to shafts; a cloth comes of"
                + " both, in two colours a field; and one asks what is up where, how long threads float, after how much"
                + " it comes again, how few shafts would do, whether it hangs together, and what would be.");
        Sentences.promisesNothing("Terms", "All numbers are whole, if nothing else is said.");
        setsAreSums();
        endsAndPicks();
        tiesAtFirst();
        fieldsThatAreUp();
        coloursOfFields();
        coloursGoRound();
        floatsOfEnds();
        floatsOfPicks();
        hangingTogether();
        withoutThreadsOrWithOneOfEach();
    }

    private static void setsAreSums() {
        Sentences.ofTerms("Sets are told as numbers: the sum of 2^k for each k in them.");
        for (int shafts = 0; shafts <= 255; shafts++) {
            TreadleLoom loom = Edges.with(0, 0, 1, 2, 3, 4, 5, 6, 7);
            loom.token(1, 7);
            loom.tie(7, shafts);
            int sum = 0;
            for (int k = 0; k <= 7; k++) {
                sum += loom.field(k, 0, 0) == 1 ? (int) Math.pow(2, k) : 0;
            }
            Checks.is("shafts", sum, shafts);
            Checks.is("tied", loom.tied(7), shafts);
        }
    }

    private static void endsAndPicks() {
        Sentences.ofTerms("2 THE CLOTH. With the THREADING of w numbers and the TREADLING of h numbers there are w ENDS"
                + " and h PICKS.");
        int[] widths = {0, 1, 2, 31, 32};
        for (int w : widths) {
            for (int h : widths) {
                TreadleLoom loom = Edges.with(0, new int[w]);
                Checks.write(loom, 1, new int[h]);
                Checks.is("ends", loom.cloth(0), w);
                Checks.is("picks", loom.cloth(1), h);
                Checks.is("fields", loom.cloth(2), w * h);
            }
        }
    }

    private static void tiesAtFirst() {
        Sentences.ofTerms("There are SHAFTS 0 to 7, TREADLES 0 to 7; each TREADLE is TIED to a set of SHAFTS (at first"
                + " the TREADLE k to the SHAFT k alone).");
        for (int k = 0; k <= 7; k++) {
            int treadle = k;
            Checks.is("tied at first", Edges.empty().tied(k), 1 << k);
            Edges.taken("treadle " + k, Edges::sample, loom -> loom.tie(treadle, 255));
            Edges.taken("shaft " + k, Edges::sample, loom -> loom.swap(treadle, 7));
        }
        TreadleLoom loom = Edges.with(0, 0, 1, 2, 3, 4, 5, 6, 7);
        Checks.write(loom, 1, 0, 1, 2, 3, 4, 5, 6, 7);
        Checks.is("the cloth at first", Edges.pictureOf(loom), "#......./.#....../..#...../...#..../"
                + "....#.../.....#../......#./.......#");
        Edges.refusedOutside(0, 7, Checks.INDEX, Edges::sample, (one, treadle) -> one.tied(treadle));
        Edges.refusedOutside(0, 7, Checks.INDEX, Edges::sample, (one, shaft) -> one.swap(shaft, 0));
    }

    private static void fieldsThatAreUp() {
        Sentences.ofTerms("On the FIELD of the END x and the PICK y the END is UP, if the TREADLE that is the number y"
                + " of the TREADLING is TIED to the SHAFT that is the number x of the THREADING.");
        Checks.is("sample", Edges.pictureOf(Edges.sample()), "#.##./.#..#/.##../.#..#");
        TreadleLoom loom = Edges.with(0, 7, 0, 7);
        Checks.write(loom, 1, 0, 7, 3, 7);
        loom.tie(3, 0);
        Checks.is("corners", Edges.pictureOf(loom), ".#./#.#/.../#.#");
        loom.tie(7, 255);
        Checks.is("tied to all", Edges.pictureOf(loom), ".#./###/.../###");
        loom.tie(0, 128);
        Checks.is("tied to the last", Edges.pictureOf(loom), "#.#/###/.../###");
        Checks.is("the last field of the widest", Edges.widest().field(31, 31, 0), 1);
    }

    private static void coloursOfFields() {
        Sentences.ofTerms("Its COLOUR is that of the END, if it is UP, otherwise that of the PICK;");
        TreadleLoom loom = Edges.picture("#.#", ".#.", "...", "###");
        Checks.write(loom, 2, 1, 2, 3);
        Checks.write(loom, 3, 4, 5, 6, 7);
        Checks.is("colours", coloursOf(loom), "143/525/666/123");
        loom.tie(2, 7);
        loom.tie(3, 0);
        Checks.is("colours when the ties are others", coloursOf(loom), "143/525/123/777");
    }

    private static String coloursOf(TreadleLoom loom) {
        StringBuilder lines = new StringBuilder();
        int ends = loom.cloth(0);
        int picks = loom.cloth(1);
        for (int pick = 0; pick < picks; pick++) {
            lines.append(pick == 0 ? "" : "/");
            for (int end = 0; end < ends; end++) {
                lines.append(loom.field(end, pick, 1));
            }
        }
        return lines.toString();
    }

    private static void coloursGoRound() {
        Sentences.ofTerms("COLOURS go on from the beginning when their row is over (0, if it is COMPILED to nothing).");
        for (int many : new int[] {1, 2, 3, 4, 5, 16, 31, 32}) {
            TreadleLoom up = Edges.widest();
            TreadleLoom down = Edges.widest();
            down.tie(0, 0);
            for (int place = 0; place < many; place++) {
                up.token(2, (place + place / 8 + 1) % 8);
                down.token(3, (place + place / 8 + 1) % 8);
            }
            for (int place = 0; place < 32; place++) {
                int due = (place % many + place % many / 8 + 1) % 8;
                Checks.is("colour of the end " + place + " of " + many, up.field(place, 31, 1), due);
                Checks.is("colour of the pick " + place + " of " + many, down.field(31, place, 1), due);
            }
        }
        int[][] nothing = {{}, {Edges.OPEN, Edges.CLOSE}, {5, Edges.CLOSE}, {44}};
        for (int[] tokens : nothing) {
            TreadleLoom loom = Edges.picture("#.", ".#");
            Checks.write(loom, 2, 3);
            Checks.write(loom, 3, tokens);
            Checks.is("picks without colours", coloursOf(loom), "30/03");
            loom.untoken(2, 40);
            Checks.write(loom, 2, tokens);
            Checks.is("without colours", coloursOf(loom), "00/00");
            loom.untoken(3, 40);
            Checks.write(loom, 3, 4);
            Checks.is("ends without colours", coloursOf(loom), "04/40");
        }
    }

    /** The longest float, how many there are of ends, and how many of picks. */
    private static void floatsAre(TreadleLoom loom, int longest, int ofEnds, int ofPicks) {
        Checks.is("longest float", loom.cloth(3), longest);
        Checks.is("floats of ends", loom.cloth(4), ofEnds);
        Checks.is("floats of picks", loom.cloth(5), ofPicks);
    }

    private static void floatsOfEnds() {
        Sentences.ofTerms("FLOATS: of an END each row of PICKS, one beside the other, as long as it goes, over which it"
                + " is UP;");
        floatsAre(Edges.picture("#"), 1, 1, 0);
        floatsAre(Edges.picture("#", "#", "#"), 3, 1, 0);
        floatsAre(Edges.picture("#", ".", "#"), 1, 2, 1);
        floatsAre(Edges.picture("#", "#", ".", "#", "#", "#", ".", "#"), 3, 3, 2);
        floatsAre(Edges.picture("####"), 1, 4, 0);
        floatsAre(Edges.picture("#.", ".#"), 1, 2, 2);
        floatsAre(Edges.picture("##", "#.", "##"), 3, 3, 1);
        floatsAre(Edges.widest(), 32, 32, 0);
    }

    private static void floatsOfPicks() {
        Sentences.ofTerms("of a PICK each row of ENDS that are not UP.");
        floatsAre(Edges.picture("."), 1, 0, 1);
        floatsAre(Edges.picture("..."), 3, 0, 1);
        floatsAre(Edges.picture(".#."), 1, 1, 2);
        floatsAre(Edges.picture("..#...#."), 3, 2, 3);
        floatsAre(Edges.picture(".", ".", ".", "."), 1, 0, 4);
        floatsAre(Edges.picture("..", ".#", ".."), 2, 1, 3);
        TreadleLoom widest = Edges.widest();
        widest.tie(0, 0);
        floatsAre(widest, 32, 0, 32);
        floatsAre(Edges.empty(), 0, 0, 0);
        floatsAre(Edges.with(0, 0, 1), 0, 0, 0);
        floatsAre(Edges.with(1, 0, 1), 0, 0, 0);
    }

    private static void hangingTogether() {
        Sentences.ofTerms("The cloth HANGS together, if from each END and each PICK one comes to each other: from an"
                + " END to the PICKS over which it is UP, from a PICK to the ENDS that are not UP on it; and so on.");
        Checks.is("plain weave", Edges.picture("#.", ".#").hangs(), true);
        Checks.is("the other plain weave", Edges.picture(".#", "#.").hangs(), true);
        Checks.is("all up", Edges.picture("##", "##").hangs(), false);
        Checks.is("none up", Edges.picture("..", "..").hangs(), false);
        Checks.is("an end on each side", Edges.picture("#.", "#.").hangs(), false);
        Checks.is("a pick on each side", Edges.picture("##", "..").hangs(), false);
        waysAreGoneOneWay();
        longChainsHang();
    }

    private static void waysAreGoneOneWay() {
        Checks.is("an end that is never up", Edges.picture("#..", ".#.").hangs(), false);
        Checks.is("the end 0 is never up", Edges.picture(".#.", "..#").hangs(), false);
        Checks.is("an end that is always up", Edges.picture("#.#", ".##").hangs(), false);
        Checks.is("the end 0 is always up", Edges.picture("##.", "#.#").hangs(), false);
        Checks.is("a pick with all ends up", Edges.picture("#.", ".#", "##").hangs(), false);
        Checks.is("a pick with no end up", Edges.picture("#.", ".#", "..").hangs(), false);
        Checks.is("the upper layer comes to the lower", Edges.picture("#...", ".#..", "###.", "##.#").hangs(), false);
        Checks.is("the lower layer comes to no upper", Edges.picture("..#.", "...#", "#.##", ".###").hangs(), false);
        Checks.is("stitched together", Edges.picture("#...", ".#..", "#.#.", "##.#").hangs(), true);
    }

    private static void longChainsHang() {
        TreadleLoom chain = Edges.picture(CHAIN);
        Checks.is("one thread leads to the next", chain.hangs(), true);
        chain.tie(6, 64 + 128);
        Checks.is("not to the last end", chain.hangs(), false);
        int[] pairs = {Edges.OPEN, 0, 1, Edges.CLOSE, 28, Edges.TWICE};
        Checks.is("the widest plain weave", Checks.loom(pairs, pairs).hangs(), true);
        TreadleLoom cut = Checks.loom(new int[] {Edges.OPEN, 0, 1, Edges.CLOSE, 25, 23, 2, 2}, pairs);
        Checks.is("32 ends, the last of them never up", cut.hangs(), false);
    }

    private static void withoutThreadsOrWithOneOfEach() {
        Sentences.ofTerms("Without ENDS or PICKS it does not, nor with one of each.");
        Checks.is("without both", Edges.empty().hangs(), false);
        for (int many : new int[] {1, 2, 32}) {
            Checks.is("without picks", Edges.with(0, new int[many]).hangs(), false);
            Checks.is("without ends", Edges.with(1, new int[many]).hangs(), false);
        }
        Checks.is("one of each, up", Edges.picture("#").hangs(), false);
        Checks.is("one of each, not up", Edges.picture(".").hangs(), false);
        Checks.is("one end", Edges.picture("#", ".").hangs(), false);
        Checks.is("one pick", Edges.picture("#.").hangs(), false);
    }
}
