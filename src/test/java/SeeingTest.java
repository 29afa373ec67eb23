/** Promises 19 to 25, and the terms of seeing: reach, ways, rocks between. */
public final class SeeingTest {
    private static final String WIDE = "77" + ".".repeat(49);

    public static void main(String[] args) {
        reach();
        brims();
        ways();
        rocks();
        sees();
        seers();
        hidden();
        pairs();
        behind();
        widest();
        watch();
        Check.close("SeeingTest");
    }

    /** Rows of signs as bits: x is a FIELD of it. */
    private static long bits(String picture) {
        long b = 0;
        String p = picture.replace("/", "");
        for (int i = 0; i < p.length(); i++) {
            b |= p.charAt(i) == 'x' ? 1L << i : 0;
        }
        return b;
    }

    private static void reach() {
        Check c = Check.made(WIDE, "3300", "");
        String[] want = {
            "......./......./......./...x.../......./......./.......",
            "......./......./..xxx../..xxx../..xxx../......./.......",
            "......./.xxxxx./.xxxxx./.xxxxx./.xxxxx./.xxxxx./......."
        };
        for (int r = 0; r < want.length; r++) {
            c.rule("" + r, 0);
            Check.due("reach " + r, c.v.sees(0), bits(want[r]));
        }
        c.rule("3", 0);
        Check.due("reach 3", c.v.sees(0), (1L << 49) - 1);
    }

    private static void brims() {
        Check c = Check.made(WIDE, "3320", "");
        c.rule("9", 0);
        String[] want = {
            "xxxxxxx/xxxxxxx/xxxxxxx/xxxxxxx/xxxxxxx/xxxxxxx/xxxxxxx",
            // all but the way to the left
            "xxxxxxx/xxxxxxx/.xxxxxx/...xxxx/.xxxxxx/xxxxxxx/xxxxxxx",
            // up, up and right, right, right and down, down
            "..xxxxx/...xxxx/...xxxx/...xxxx/...xxxx/...xxxx/..xxxxx",
            // up and right, right, right and down
            ".....xx/....xxx/....xxx/...xxxx/....xxx/....xxx/.....xx",
            "......./......./......x/...xxxx/......x/......./......."
        };
        for (int b = 0; b < want.length; b++) {
            c.v.trims(0, b);
            Check.due("brim " + b, c.v.sees(0), bits(want[b]));
        }
    }

    private static void ways() {
        // one in the middle with brim 4: each FIELD lies by one way alone
        Check c = Check.made(WIDE, "3304", "");
        c.rule("9", 0);
        String[] want = {
            "..xxx../...x.../...x.../...x.../......./......./.......",
            ".....xx/....xxx/....xx./...x.../......./......./.......",
            "......./......./......x/...xxxx/......x/......./.......",
            "......./......./......./...x.../....xx./....xxx/.....xx",
            "......./......./......./...x.../...x.../...x.../..xxx..",
            "......./......./......./...x.../.xx..../xxx..../xx.....",
            "......./......./x....../xxxx.../x....../......./.......",
            "xx...../xxx..../.xx..../...x.../......./......./......."
        };
        for (int v = 0; v < 8; v++) {
            c.v.faces(0, v);
            Check.due("way " + v, c.v.sees(0), bits(want[v]));
        }
    }

    private static void rocks() {
        // a rock is SEEN and hides what is behind it: first across, then straight
        Check c = Check.made("55" + "....." + ".#..." + "....." + "....." + ".....", "0000", "");
        c.rule("9", 0);
        Check.due("rock at 1, 1", c.v.sees(0), bits("xxxxx/xx.../x..../x..../x...."));
        Check d = Check.made("55" + "....." + "..#.." + "....." + "....." + ".....", "0000", "");
        d.rule("9", 0);
        Check.due("rock at 1, 2", d.v.sees(0), bits("xxxxx/xxx../xxxxx/xxxxx/xxxxx"));
        // the way to a FIELD and the way from it are not the same
        Check e = Check.made("33" + "..." + ".#." + "...", "0100;2000", "");
        e.rule("9", 0);
        Check.due("up at the right: by the rock", e.v.seers(6), 3);
        Check.due("from 2, 0 the rock is between", e.v.seers(1), 1);
    }

    private static void sees() {
        Check c = Check.made("33....#....", "0023;2000;1264;0000", "02;22;20");
        Check.due("sees(0)", c.v.sees(0), 0b10111);
        c.row("sees(0)", 4, 8);
        Check.due("sees(2)", c.v.sees(2), 0b110000);
        c.row("sees(2)", 2, 0);
        Check.due("its own FIELD without LIGHT", dark().v.sees(0), 1);
        Check.due("sees(4)", c.v.sees(4), -1);
        Check.due("sees(-1)", c.v.sees(-1), -1);
        c.row("stays", 2, 0);
    }

    private static Check dark() {
        Check c = Check.made("33.........", "0000;2200", "00");
        c.light("0", 1);
        return c;
    }

    private static void seers() {
        Check c = Check.made("33....#....", "0023;2000;1264", "02;22;20;11;11");
        Check.due("a rock", c.v.seers(4), 7);
        c.row("a rock", 3, 24);
        Check.due("seers(2)", c.v.seers(2), 1);
        c.row("seers(2)", 1, 1);
        Check.due("seers(9)", c.v.seers(9), -1);
        Check.due("seers(-1)", c.v.seers(-1), -1);
        c.row("stays", 1, 1);
    }

    private static void hidden() {
        Check c = Check.made("33.#.......", "0024", "22;01;00;22");
        // 0 looks to the right: its own FIELD and the rock
        Check.due("hidden", c.v.hidden(), 0b111111100);
        c.row("hidden", 7, 9);
        c.v.trims(0, 0);
        // all round: what is behind the rock stays
        Check.due("hidden", c.v.hidden(), 0b100);
        c.row("hidden", 1, 0);
    }

    private static void pairs() {
        Check c = Check.made("34............", "0024;0264;2300", "");
        // 0 and 1 look at each other from afar; 2 SEES all, nobody SEES it
        Check.due("pairs", c.v.pairs(), 1);
        c.row("pairs", 0, 0, 1);
        c.v.steps(0, 2);
        Check.due("nearer", c.v.pairs(), 1);
        c.row("nearer", 1, 0, 1);
        c.v.faces(0, 6);
        Check.due("turned off", c.v.pairs(), 0);
        c.row("turned off", 0);
        // two on one FIELD SEE each other's FIELD, whatever they face
        Check d = Check.made("33.........", "0004;2244;0004", "");
        Check.due("on one FIELD", d.v.pairs(), 1);
        d.row("on one FIELD", 1, 0, 2);
    }

    private static void behind() {
        Check c = Check.made("33.........", "1164;1262;0264;1100", "");
        // 0 looks to the left; 1 and 2 stand at its right, 1 looks at it, 2 does not; 3 is on its FIELD
        Check.due("behind(0)", c.v.behind(0), 2);
        c.row("behind(0)", 1);
        Check.due("behind(2)", c.v.behind(2), 10);
        c.row("behind(2)", 2);
        Check.due("behind(3)", c.v.behind(3), 0);
        c.row("behind(3)", 0);
        Check.due("behind(4)", c.v.behind(4), -1);
        Check.due("behind(-1)", c.v.behind(-1), -1);
        c.row("stays", 0);
    }

    private static void widest() {
        Check c = Check.made("33.........", "1100;0024;1100;2064", "");
        Check.due("widest", c.v.widest(), 0);
        c.row("widest", 9, 3, 1);
        c.v.faces(3, 0);
        Check.due("of equal ones the first", c.v.widest(), 0);
        c.row("of equal ones the first", 9, 1, 3);
        Check d = Check.made("33.........", "", "");
        Check.due("nobody", d.v.widest(), -2);
    }

    private static void watch() {
        Check c = Check.made("33.........", "0024;1024;1100;2024", "");
        Check.due("one for all", c.v.watch(), 1);
        c.row("one for all", 4);
        c.v.trims(2, 4);
        c.v.faces(2, 2);
        // 2 SEES no more than 1 does
        Check.due("three", c.v.watch(), 3);
        c.row("three", 11);
        Check d = Check.made("33.........", "0024;0024;1024", "");
        Check.due("the least bits", d.v.watch(), 2);
        d.row("the least bits", 5);
        Check e = Check.made("33.........", "", "");
        Check.due("nobody", e.v.watch(), 0);
        e.row("nobody", 0);
    }
}
