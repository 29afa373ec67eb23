/** Promises 19 to 29: each sentence that names a boundary, with a test of its own. */
public final class EdgesOfLooksTest {
    private static final int LEAST = Integer.MIN_VALUE;
    private static final int MOST = Integer.MAX_VALUE;
    private static final String SMALL = "33.........";
    private static final String WIDE = "77" + ".".repeat(49);
    private static final String EIGHT = "1100;1100;1100;1100;1100;1100;1100;1100";

    public static void main(String[] args) {
        sees();
        seers();
        hidden();
        pairs();
        behind();
        widest();
        watch();
        learns();
        all();
        ahead();
        gossip();
        Check.close("EdgesOfLooksTest");
    }

    private static void sees() {
        Check.sentence(19, "FIELDS (bits) that one SEES now; the ROW: how many, PEOPLE on these (bits, it not)", () -> {
            Check c = Check.made(SMALL, EIGHT, "");
            for (int i = 0; i < 8; i++) {
                Check.due("sees(" + i + ")", c.v.sees(i), 511);
                c.row("all others", 9, 255 - (1 << i));
            }
            Check wide = Check.made(WIDE, "6600;0000", "");
            Check.due("all 49", wide.v.sees(0), (1L << 49) - 1);
            wide.row("all 49", 49, 2);
            wide.light("0", 1);
            Check.due("its own alone", wide.v.sees(0), 1L << 48);
            wide.row("its own alone", 1, 0);
        });
        Check.sentence(19, "NONE: none such", () -> {
            Check c = Check.made(SMALL, "0000;0000", "");
            Check.each("sees", i -> c.v.sees(i), -1, 2, 7, 8, -1, LEAST, MOST);
            Check.due("no ROW", c.v.count(11), 0);
        });
    }

    private static void seers() {
        Check.sentence(20, "PEOPLE (bits) who SEE a FIELD now; the ROW: how many, THINGS there (bits)", () -> {
            Check c = Check.made(SMALL, EIGHT, "22;22;22;22;22;22;22;22");
            Check.due("all", c.v.seers(8), 255);
            c.row("all", 8, 255);
            c.light("0", 1);
            Check.due("nobody", c.v.seers(8), 0);
            c.row("nobody", 0, 255);
            Check.due("all there", c.v.seers(4), 255);
            c.row("all there", 8, 0);
        });
        Check.sentence(20, "NONE: none such", () -> {
            Check c = Check.made("34............", "0000", "");
            Check.due("the last FIELD", c.v.seers(11), 1);
            c.v.hidden();
            Check.each("seers", c.v::seers, -1, 12, 48, 64, -1, LEAST, MOST);
            c.row("hidden", 0, 0);
        });
    }

    private static void hidden() {
        Check.sentence(21, "FIELDS that are no rock (bits) that nobody SEES now; the ROW: how many, THINGS on these (bits)", () -> {
            Check c = Check.made("77" + "#" + ".".repeat(47) + "#", "", "00;01;66;65");
            Check.due("nobody SEES", c.v.hidden(), (1L << 48) - 2);
            c.row("nobody SEES", 47, 0b1010);
            Check full = Check.made(SMALL, "1100", "00;22");
            Check.due("all is SEEN", full.v.hidden(), 0);
            full.row("all is SEEN", 0, 0);
            Check rocks = Check.made("33#########", "", "00");
            Check.due("rocks alone", rocks.v.hidden(), 0);
            rocks.row("rocks alone", 0, 0);
        });
    }

    private static void pairs() {
        Check.sentence(22, "then the first pair of all (the lesser first; nothing more without)", () -> {
            Check c = Check.made(SMALL, EIGHT, "");
            Check.due("all", c.v.pairs(), 28);
            c.row("all", 28, 0, 1);
            Check nobody = new Check();
            Check.due("nobody", nobody.v.pairs(), 0);
            nobody.row("nobody", 0);
            Check one = Check.made(SMALL, "1100", "");
            Check.due("one", one.v.pairs(), 0);
            one.row("one", 0);
            // the first pair may be one that tells nothing
            Check far = Check.made("37" + "......." + "#######" + ".......", "0024;0664;2024;2164", "");
            far.rule("9", 0);
            Check.due("far and near", far.v.pairs(), 2);
            far.row("far and near", 1, 0, 1);
            Check back = Check.made(SMALL, "0064;0264;2224;2064", "");
            Check.due("back to back", back.v.pairs(), 0);
            back.row("back to back", 0);
            Check last = Check.made(SMALL, "0064;0224;2024;2264", "");
            Check.due("the last two", last.v.pairs(), 1);
            last.row("the last two", 0, 2, 3);
        });
        Check.sentence(22, "how many of these tell each other in this HOUR (one ROW and one COLUMN apart at most)", () -> {
            Check c = Check.made("35" + ".".repeat(15), "1124;1264;1364;1424", "");
            // 0 looks right at 1, 2 and 3; 1 and 2 look left, 3 right
            Check.due("1 to 0, 2 to 0", c.v.pairs(), 2);
            c.row("1 alone is near", 1, 0, 1);
        });
    }

    private static void behind() {
        Check.sentence(23, "PEOPLE (bits) who SEE one's FIELD, and whose FIELD that one does not SEE; the ROW: how many", () -> {
            Check c = Check.made(SMALL, "1104;2100;2000;2200;2144;1100;0100;2100", "");
            // 0 looks up: those below it look on its back, but 4, who looks away; 5 is with it, 6 ahead of it
            Check.due("behind(0)", c.v.behind(0), 0b10001110);
            c.row("behind(0)", 4);
            Check.due("behind(1)", c.v.behind(1), 0);
            c.row("behind(1)", 0);
        });
        Check.sentence(23, "NONE: none such", () -> {
            Check c = Check.made(SMALL, "0000;0000", "");
            c.v.hidden();
            Check.each("behind", c.v::behind, -1, 2, 7, 8, -1, LEAST, MOST);
            c.row("hidden", 0, 0);
        });
    }

    private static void widest() {
        Check.sentence(24, "Who SEES the most FIELDS now: of equal ones the first", () -> {
            Check c = Check.made(SMALL, EIGHT, "");
            Check.due("all alike", c.v.widest(), 0);
            c.row("all alike", 9, 0, 9);
            c.v.trims(0, 4);
            Check.due("the second", c.v.widest(), 1);
            c.row("the second", 9, 0, 2);
        });
        Check.sentence(24, "who SEES the fewest (of equal ones the first), how many", () -> {
            Check c = Check.made(SMALL, EIGHT, "");
            c.v.trims(7, 4);
            c.v.trims(5, 4);
            Check.due("widest", c.v.widest(), 0);
            c.row("the first of two", 9, 5, 2);
            Check one = Check.made(SMALL, "1104", "");
            Check.due("one is both", one.v.widest(), 0);
            one.row("one is both", 2, 0, 2);
        });
        Check.sentence(24, "-2: there are no PEOPLE", () -> {
            Check c = Check.made(SMALL, "", "00");
            Check.due("widest", c.v.widest(), -2);
            Check.due("no ROW", c.v.count(11), 0);
        });
    }

    private static void watch() {
        Check.sentence(25, "how many; the ROW: they (bits: of as few the least)", () -> {
            Check c = Check.made(SMALL, EIGHT, "");
            Check.due("one of all", c.v.watch(), 1);
            c.row("the first", 1);
            Check nobody = new Check();
            Check.due("nobody", nobody.v.watch(), 0);
            nobody.row("nobody", 0);
            Check all = Check.made(SMALL, "1104;1114;1124;1134;1144;1154;1164;1174", "");
            Check.due("all eight", all.v.watch(), 8);
            all.row("all eight", 255);
            Check last = Check.made(SMALL, "0004;0004;0004;0004;0004;0004;0004;1100", "");
            Check.due("the last alone", last.v.watch(), 1);
            last.row("the last alone", 128);
            // one of four SEES nothing that the first of the others does not SEE
            String[] others = {"1113", "1134", "1154"};
            for (int idle = 0; idle < 4; idle++) {
                StringBuilder people = new StringBuilder();
                for (int i = 0; i < 4; i++) {
                    people.append(i > 0 ? ";" : "").append(i == idle ? "1114" : others[i < idle ? i : i - 1]);
                }
                Check three = Check.made(SMALL, people.toString(), "");
                Check.due("three of four", three.v.watch(), 3);
                three.row("all but " + idle, 15 - (1 << idle));
                three.v.trims(idle == 0 ? 1 : 0, 4);
                Check.due("two of whom are alike", three.v.watch(), 3);
                three.row("the least of both", idle < 2 ? 13 : 15 - (1 << idle));
            }
            // 0 and 4 SEE all above, 3 and 5 all below, 1 and 2 their own FIELD
            Check two = Check.made("33...###...", "0024;0064;2224;2024;0264;2264", "");
            Check.due("two", two.v.watch(), 2);
            two.row("0 and 3", 9);
        });
    }

    private static void learns() {
        Check.sentence(26, "In how many HOURS (0: it does; .. 99) one KNOWS of a THING", () -> {
            Check c = late(98, "00");
            Check.due("in 99", c.v.learns(0, 0), 99);
            c.row("in 99", 1);
            c.v.hours(60);
            Check.due("in 39", c.v.learns(0, 0), 39);
            c.v.hours(39);
            Check.due("it does", c.v.learns(0, 0), 0);
            c.row("it does", 1);
            Check d = Check.made(SMALL, "0000;2244", "00");
            Check.due("in 1", d.v.learns(0, 0), 1);
            d.row("in 1", 1);
        });
        Check.sentence(26, "-2: in none of these", () -> {
            Check c = late(99, "00");
            Check.due("it would be 100", c.v.learns(0, 0), -2);
            Check.due("no ROW", c.v.count(11), 0);
            c.v.hours(1);
            Check.due("then it is 99", c.v.learns(0, 0), 99);
        });
        Check.sentence(26, "NONE: none such", () -> {
            Check c = Check.made(SMALL, "0000;0000", "00;00;00");
            Check.each("person", i -> c.v.learns(i, 0), -1, 2, 7, 8, -1, LEAST, MOST);
            Check.each("thing", t -> c.v.learns(0, t), -1, 3, 7, 8, 32, -1, LEAST, MOST);
            Check.due("the last of both", c.v.learns(1, 2), 1);
        });
    }

    /** One beside a THING who SEES beyond its own FIELD in one HOUR of 140 alone. */
    private static Check late(int hour, String thing) {
        Check c = Check.made(SMALL, "0100", thing);
        c.light("0".repeat(hour % 20) + "1" + "0".repeat(19 - hour % 20), 20);
        c.rule("l*(n=" + hour % 7 + ")", 0);
        return c;
    }

    private static void all() {
        Check.sentence(27, "In how many HOURS (0 .. 99) all KNOW of all THINGS", () -> {
            Check c = late(98, "00;01");
            Check.due("in 99", c.v.all(), 99);
            c.row("in 99", 0);
            c.v.hours(60);
            c.v.hours(39);
            Check.due("in 0", c.v.all(), 0);
            Check none = Check.made(SMALL, "0000", "");
            Check.due("no THINGS", none.v.all(), 0);
            Check nobody = Check.made(SMALL, "", "00");
            Check.due("no PEOPLE", nobody.v.all(), 0);
            Check full = Check.made(SMALL, EIGHT, "00;01;02;10;12;20;21;22");
            Check.due("eight and eight", full.v.all(), 1);
            full.row("the first of eight", 0);
        });
        Check.sentence(27, "who is the last one (the first of those that did not an HOUR ahead; NONE for 0)", () -> {
            Check c = Check.made("35" + "....." + "#####" + "#####", "0000;0100;0200;0300;0300", "00");
            c.rule("1", 0);
            // 0 and 1 SEE it; 2 hears in the second HOUR, 3 and 4 in the third
            Check.due("in 3", c.v.all(), 3);
            c.row("the first of 3 and 4", 3);
            c.v.hours(1);
            c.v.hours(1);
            Check.due("in 1", c.v.all(), 1);
            c.row("the first of 3 and 4", 3);
            c.v.hours(1);
            Check.due("in 0", c.v.all(), 0);
            c.row("in 0", -1);
        });
        Check.sentence(27, "-2: in none of these", () -> {
            Check c = late(99, "00;01");
            Check.due("it would be 100", c.v.all(), -2);
            Check.due("no ROW", c.v.count(11), 0);
            c.v.hours(1);
            Check.due("then it is 99", c.v.all(), 99);
            Check never = Check.made("33.#.######", "0000", "02");
            Check.due("never", never.v.all(), -2);
        });
    }

    private static void ahead() {
        Check.sentence(28, "How much all KNOW together in n HOURS (0 .. 99), if nothing else is done; the ROW: by PEOPLE what (bits)", () -> {
            Check c = late(98, "00;01");
            Check.due("in 0", c.v.ahead(0), 0);
            c.row("in 0", 0);
            Check.due("in 1", c.v.ahead(1), 1);
            c.row("in 1", 2);
            Check.due("in 98", c.v.ahead(98), 1);
            c.row("in 98", 2);
            Check.due("in 99", c.v.ahead(99), 2);
            c.row("in 99", 3);
            Check full = Check.made(SMALL, EIGHT, "00;01;02;10;12;20;21;22");
            Check.due("eight and eight", full.v.ahead(1), 64);
            full.row("eight and eight", 255, 255, 255, 255, 255, 255, 255, 255);
            Check nobody = new Check();
            Check.due("nobody", nobody.v.ahead(99), 0);
            nobody.row("nobody");
        });
        Check.sentence(28, "NONE: another n", () -> {
            Check c = Check.made(SMALL, "0000", "00");
            c.v.hidden();
            Check.each("ahead", c.v::ahead, -1, 100, -1, LEAST, MOST);
            c.row("hidden", 0, 0);
        });
    }

    private static void gossip() {
        Check.sentence(29, "PEOPLE (bits, it too) who would hear from one", () -> {
            Check c = Check.made(SMALL, EIGHT, "");
            Check.due("all", c.v.gossip(7), 255);
            c.row("all at once", 1);
            // a row of seven, the last of whom tells one on its FIELD who looks away
            Check line = Check.made("37" + "......." + "#######" + "#######",
                "0000;0100;0200;0300;0400;0500;0600;0624", "");
            Check.due("from the first", line.v.gossip(0), 255);
            line.row("from the first", 7);
            Check.due("from the middle", line.v.gossip(3), 255);
            line.row("from the middle", 4);
        });
        Check.sentence(29, "in how many rounds the last one hears (0: nobody else)", () -> {
            Check c = Check.made(SMALL, "0000;0164;0200", "");
            c.light("0", 1);
            Check.due("in the dark", c.v.gossip(1), 2);
            c.row("in the dark", 0);
            Check one = Check.made(SMALL, "1100", "");
            Check.due("alone", one.v.gossip(0), 1);
            one.row("alone", 0);
            Check far = Check.made(SMALL, "0000;2200", "");
            Check.due("too far", far.v.gossip(0), 1);
            far.row("too far", 0);
        });
        Check.sentence(29, "NONE: none such", () -> {
            Check c = Check.made(SMALL, "0000;0000", "");
            c.v.hidden();
            Check.each("gossip", c.v::gossip, -1, 2, 7, 8, -1, LEAST, MOST);
            c.row("hidden", 0, 0);
        });
    }
}
