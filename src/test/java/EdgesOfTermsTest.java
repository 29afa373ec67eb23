/** Each sentence of the document's terms that names a boundary, with a test of its own. */
public final class EdgesOfTermsTest {
    private static final String SMALL = "33.........";
    private static final String WIDE = "77" + ".".repeat(49);
    /** The FIELDS round the middle one of SMALL, by ways. */
    private static final int[] ROUND = {1, 2, 5, 8, 7, 6, 3, 0};

    public static void main(String[] args) {
        sizes();
        hours();
        ruleGrammar();
        ruleNumbers();
        reach();
        ways();
        rocks();
        telling();
        rows();
        calls();
        Check.close("EdgesOfTermsTest");
    }

    private static void sizes() {
        Check.sentence(0, "ROWS and COLUMNS, 3 to 7 each (at first 3 and 3)", () -> {
            Check c = new Check();
            Check.due("ROWS at first", c.v.count(0), 3);
            Check.due("COLUMNS at first", c.v.count(1), 3);
            for (int r = 2; r <= 8; r++) {
                c = new Check();
                for (int k = 2; k <= 8; k++) {
                    boolean fits = r > 2 && r < 8 && k > 2 && k < 8;
                    c.valley("" + r + k + ".".repeat(r * k), fits ? r * k : r > 2 && r < 8 ? -2 : -1);
                    Check.due("ROWS", !fits || c.v.count(0) == r, true);
                    Check.due("COLUMNS", !fits || c.v.count(1) == k, true);
                }
            }
        });
        Check.sentence(0, "each free or a rock (at first free)", () -> {
            Check c = new Check();
            Check.due("rocks at first", c.v.count(7), 0);
            c.valley("33#########", 9);
            Check.due("rocks", c.v.count(7), 9);
            Check.due("none is free", c.v.hidden(), 0);
            c.valley("77" + "#".repeat(49), 49);
            Check.due("rocks", c.v.count(7), 49);
            c.valley("77" + "#".repeat(48) + ".", 49);
            Check.due("the last one is free", c.v.hidden(), 1L << 48);
        });
        Check.sentence(0, "PEOPLE 0 .. (at most 8), each on a FIELD that is no rock (several can be on one)", () -> {
            Check c = new Check();
            c.people("1100;1110;1120;1130;1140;1150;1160;1170", 8);
            c.people(0, 4, 4, 4, 4, 4, 4, 4, 4);
            c.people("1100", -1);
            Check.due("eight", c.v.count(2), 8);
        });
        Check.sentence(0, "with a FACING 0 .. 7 (0 up, 1 up and right, 2 right, .. 7 up and left)", () -> {
            Check c = Check.made(SMALL, "1104;1114;1124;1134;1144;1154;1164;1174", "");
            c.people(1, 0, 1, 2, 3, 4, 5, 6, 7);
            for (int i = 0; i < 8; i++) {
                Check.due("sees(" + i + ")", c.v.sees(i), 1L << 4 | 1L << ROUND[i]);
            }
        });
        Check.sentence(0, "a BRIM 0 .. 4", () -> {
            Check c = Check.made(SMALL, "1100;1101;1102;1103;1104", "");
            c.people(2, 0, 1, 2, 3, 4);
            c.people("1105", -4);
        });
        Check.sentence(0, "THINGS that it KNOWS (bits, at first none)", () -> {
            Check c = Check.made(SMALL, "1100", "11;11;11;11;11;11;11;11");
            Check.due("at first", c.v.person(0, 3), 0);
            c.v.hours(1);
            Check.due("all eight", c.v.person(0, 3), 255);
            c.people("1100", 1);
            Check.due("who comes KNOWS none", c.v.person(1, 3), 0);
            c.valley(SMALL, 9);
            c.people("1100", 1);
            Check.due("anew", c.v.person(0, 3), 0);
        });
        Check.sentence(0, "THINGS 0 .. (at most 8), each on a FIELD (a rock, too)", () -> {
            Check c = Check.made("33#########", "", "00;01;02;10;12;20;21;22");
            Check.due("eight", c.v.count(3), 8);
            Check.due("the last one", c.v.thing(7, 0), 8);
            c.things("00", -1);
        });
    }

    private static void hours() {
        Check.sentence(0, "LIGHT is a text of 1 to 20 digits (at first 9)", () -> {
            Check c = new Check();
            Check.due("at first", c.v.count(5), 9);
            c.light("", -1);
            c.light("0", 1);
            c.light("1".repeat(20), 20);
            c.light("0".repeat(21), -21);
            Check.due("LIGHT", c.v.count(5), 1);
        });
        Check.sentence(0, "that of an HOUR is the digit at HOUR by how many there are (rest)", () -> {
            Check c = new Check();
            c.light("01234567890123456789", 20);
            for (int hour = 0; hour < 45; hour++) {
                Check.due("HOUR " + hour, c.v.count(5), hour % 20 % 10);
                c.v.hours(1);
            }
            c.light("5", 1);
            Check.due("of one digit", c.v.count(5), 5);
            c.light("678", 3);
            Check.due("HOUR 45 by 3", c.v.count(5), 6);
        });
        Check.sentence(0, "HOUR (at first 0)", () -> {
            Check c = new Check();
            Check.due("at first", c.v.count(4), 0);
            // as many HOURS as the calls of an object can bring
            for (int i = 0; i < 500; i++) {
                c.v.hours(60);
            }
            Check.due("at last", c.v.count(4), 30000);
        });
        Check.sentence(0, "n HOUR by 7 (rest)", () -> {
            Check c = Check.made(SMALL, "0000", "");
            c.rule("n", 0);
            for (int hour = 0; hour < 16; hour++) {
                Check.due("HOUR " + hour, c.v.person(0, 4), hour % 7);
                c.v.hours(1);
            }
        });
    }

    private static void ruleGrammar() {
        Check.sentence(0, "THE RULE is a text of at most 40 signs (at first none: l-b)", () -> {
            Check c = Check.made(SMALL, "0003", "");
            c.light("8", 1);
            Check.due("at first", c.v.person(0, 4), 5);
            c.rule("0+".repeat(19) + "07", 0);
            Check.due("40 signs", c.v.person(0, 4), 7);
            c.rule("0+".repeat(19) + "008", -41);
            Check.due("41 signs", c.v.person(0, 4), 7);
            c.rule("", 0);
            Check.due("none again", c.v.person(0, 4), 5);
        });
        Check.sentence(0, "< > = bind least (two; 1 or 0; not one behind the other)", () -> {
            Check c = Check.made(SMALL, "0000", "");
            reach(c, "1+1<3", 1);
            // 1 or 0, which the 3 behind tells from what is below 0 or above 9
            String[] no = {"5<5", "5<4", "5>5", "5>6", "5=4", "5=6", "-5=5"};
            for (String s : no) {
                reach(c, "(" + s + ")*5+3", 3);
            }
            String[] yes = {"5<6", "-5<5", "5>4", "5>-5", "5=5", "--5=5"};
            for (String s : yes) {
                reach(c, "(" + s + ")*5+3", 8);
            }
            reach(c, "3>1+1", 1);
            reach(c, "2*3=6", 1);
            reach(c, "2*3<6", 0);
            reach(c, "2*3>6", 0);
            reach(c, "5-(2=3)", 5);
            reach(c, "(1<2)=(2<3)", 1);
            for (String a : new String[] {"<", ">", "="}) {
                c = new Check();
                c.rule(a + "1", -1);
                c.rule("1" + a, -3);
                for (String b : new String[] {"<", ">", "="}) {
                    c.rule("1" + a + "2" + b + "3", -4);
                    c.rule("1" + a + "2+1" + b + "3", -6);
                    c.rule("(1" + a + "2" + b + "3)", -5);
                    c.rule("1" + a + b + "3", -3);
                    c.rule("1" + a + "(2" + b + "3)", 0);
                    c.rule("(1" + a + "2)" + b + "3", 0);
                    c.rule("(1" + a + "2)+(1" + b + "2)", 0);
                    c.rule("(1" + a + "2)" + b + "(3)" + a + "4", -10);
                }
            }
        });
        Check.sentence(0, "then - ahead of a thing (any many)", () -> {
            Check c = Check.made(SMALL, "0000", "");
            reach(c, "-1+9", 8);
            reach(c, "--1+8", 9);
            reach(c, "-".repeat(38) + "05", 5);
            // the first one takes off, the others are ahead of the 5
            reach(c, "9" + "-".repeat(37) + "5", 4);
            reach(c, "2" + "-".repeat(38) + "5", 7);
            reach(c, "-2*-3", 6);
            reach(c, "-(2-9)", 7);
            reach(c, "5<-5", 0);
            c.rule("-", -2);
            c.rule("1-", -3);
            c.rule("-+1", -2);
        });
        Check.sentence(0, "a NUMBER of 1 to 3 digits", () -> {
            Check c = Check.made(SMALL, "0000", "");
            reach(c, "7", 7);
            reach(c, "17-10", 7);
            reach(c, "999-990", 9);
            reach(c, "000", 0);
            reach(c, "007", 7);
            c.rule("0007", -4);
            c.rule("1000", -4);
            c.rule("1+2345", -6);
            c.rule("1(2)", -2);
            c.rule("(1)2", -4);
        });
        Check.sentence(0, "an EXPRESSION in ( ) (at most 4 in one another)", () -> {
            Check c = Check.made(SMALL, "0000", "");
            reach(c, "((((4))))", 4);
            reach(c, "((((4)+(1))))", 5);
            reach(c, "(1)+(1)+(1)+(1)+(1)+(1)", 6);
            reach(c, "((((1))))+((((2))))", 3);
            reach(c, "((((1<2))))+((((7-2))))", 6);
            reach(c, "((((2*3)-1)-1)-1)-(((1)))", 2);
            c.rule("(((((4)))))", -5);
            c.rule("((((4))+((4)))))", -16);
            c.rule("(((4)+(((4)))))", -9);
            c.rule("()", -2);
            c.rule("(", -2);
            c.rule("((1)", -5);
            c.rule(")", -1);
            c.rule("1)", -2);
            c.rule("(1))", -4);
        });
    }

    private static void reach(Check c, String rule, int want) {
        c.rule(rule, 0);
        Check.due("REACH by " + rule, c.v.person(0, 4), want);
    }

    private static void ruleNumbers() {
        Check.sentence(0, "then + - (from the left)", () -> {
            Check c = Check.made(SMALL, "0000", "");
            reach(c, "9-4-3", 2);
            reach(c, "9-4+3", 8);
            reach(c, "9-(4-3)", 8);
        });
        Check.sentence(0, "then * / (from the left; by 0: 0; cut to 0)", () -> {
            Check c = Check.made(SMALL, "0000", "");
            reach(c, "9/3*3", 9);
            reach(c, "9/(3*3)", 1);
            reach(c, "8/2/2", 2);
            reach(c, "9/0", 0);
            reach(c, "0/0", 0);
            reach(c, "-9/0", 0);
            reach(c, "5+9/0", 5);
            reach(c, "9/0*5+3", 3);
            reach(c, "9/(r-c)+4", 4);
            reach(c, "8/9", 0);
            reach(c, "9/2", 4);
            reach(c, "-9/2+9", 5);
            reach(c, "9/-2+9", 5);
            reach(c, "-9/-2", 4);
            reach(c, "-1/2+5", 5);
        });
        Check.sentence(0, "As ints, put to 0 .. 9: REACH", () -> {
            Check c = Check.made(SMALL, "0000", "");
            reach(c, "0-1", 0);
            reach(c, "0", 0);
            reach(c, "9", 9);
            reach(c, "10", 9);
            reach(c, "999*999", 9);
            reach(c, "-999*999", 0);
            // 2 to the 31st less 1, and one more: the least int
            reach(c, "512*512*512*16-1", 9);
            reach(c, "512*512*512*16", 0);
            reach(c, "512*512*512*16-1+1", 0);
            reach(c, "-(512*512*512*16)", 0);
            reach(c, "512*512*512*16/-1", 0);
            reach(c, "512*512*512*16-1-999*0", 9);
            // 2 to the 32nd and 7
            reach(c, "512*512*512*32+7", 7);
            reach(c, "-(512*512*512*16)-1", 9);
        });
        Check.sentence(0, "p how many PEOPLE are on its FIELD (it, too)", () -> {
            Check c = Check.made(SMALL, "0000", "");
            reach(c, "p", 1);
            c.people("0000;0000;0000;0000;0000;0000;0000", 7);
            c.people(4, 8, 8, 8, 8, 8, 8, 8, 8);
            c.v.steps(7, 3);
            c.people(4, 7, 7, 7, 7, 7, 7, 7, 1);
        });
        Check.sentence(0, "k how many THINGS it KNOWS", () -> {
            Check c = Check.made(SMALL, "0000", "00;00;00;00;00;00;00;00");
            reach(c, "k", 0);
            c.v.hours(1);
            Check.due("all eight", c.v.person(0, 4), 8);
        });
        Check.sentence(0, "r its ROW, c its COLUMN", () -> {
            Check c = Check.made("75" + ".".repeat(35), "6400", "");
            reach(c, "r", 6);
            reach(c, "c", 4);
            reach(c, "f+b", 0);
        });
    }

    private static void reach() {
        Check.sentence(0, "One SEES its own FIELD", () -> {
            Check c = Check.made("33#.##.####", "0104", "01");
            c.light("0", 1);
            Check.due("REACH", c.v.person(0, 4), 0);
            Check.due("sees(0)", c.v.sees(0), 2);
            Check.due("what is there", c.v.person(0, 5), 1);
        });
        Check.sentence(0, "the greater one of ROWS and COLUMNS between them is REACH or less", () -> {
            Check c = Check.made(WIDE, "0000", "");
            for (int r = 0; r <= 9; r++) {
                c.rule("" + r, 0);
                long want = 0;
                for (int f = 0; f < 49; f++) {
                    want |= f / 7 <= r && f % 7 <= r ? 1L << f : 0;
                }
                Check.due("REACH " + r, c.v.sees(0), want);
            }
        });
        Check.sentence(0, "its WAY is 4 less BRIM eighths off FACING or fewer (round: 7 and 0 are one off)", () -> {
            Check c = Check.made(SMALL, "1100", "");
            c.rule("9", 0);
            for (int facing = 0; facing < 8; facing++) {
                for (int brim = 0; brim <= 4; brim++) {
                    long want = 1L << 4;
                    for (int off = brim - 4; off <= 4 - brim; off++) {
                        want |= 1L << ROUND[facing + off + 8 & 7];
                    }
                    c.v.faces(0, facing);
                    c.v.trims(0, brim);
                    Check.due("FACING " + facing + ", BRIM " + brim, c.v.sees(0), want);
                }
            }
            c.v.faces(0, 7);
            c.v.trims(0, 3);
            Check.due("7 and 0 are one off", c.v.sees(0), 0b000011011);
        });
    }

    private static long field(int row, int column) {
        return 1L << row * 7 + column;
    }

    private static void ways() {
        Check.sentence(0, "up or down, if there are more ROWS between than twice the COLUMNS", () -> {
            Check c = Check.made(WIDE, "6004", "");
            c.rule("9", 0);
            long up = field(6, 0) | field(5, 0) | field(4, 0) | field(3, 0) | field(2, 0) | field(1, 0) | field(0, 0)
                | field(3, 1) | field(2, 1) | field(1, 1) | field(0, 1) | field(1, 2) | field(0, 2);
            // 2 and 1, 4 and 2, 6 and 3 are not more than twice
            Check.due("up", c.v.sees(0), up);
            Check d = Check.made(WIDE, "0644", "");
            long down = 0;
            for (int r = 0; r < 7; r++) {
                for (int k = 0; k < 7; k++) {
                    down |= (up >> (6 - r) * 7 + 6 - k & 1) == 1 ? field(r, k) : 0;
                }
            }
            d.rule("9", 0);
            Check.due("down", d.v.sees(0), down);
        });
        Check.sentence(0, "right or left, if there are more COLUMNS than twice the ROWS", () -> {
            Check c = Check.made(WIDE, "0024", "");
            c.rule("9", 0);
            Check.due("right", c.v.sees(0), 0b1111111L | 0b1111000L << 7 | 0b1100000L << 14);
            Check d = Check.made(WIDE, "6664", "");
            d.rule("9", 0);
            Check.due("left", d.v.sees(0), 0b1111111L << 42 | 0b0001111L << 35 | 0b0000011L << 28);
        });
        Check.sentence(0, "else the one of the four between these", () -> {
            Check c = Check.made(WIDE, "3304", "");
            c.rule("9", 0);
            long[] just = {
                0, field(1, 4) | field(2, 5), 0, field(4, 5) | field(5, 4), 0, field(5, 2) | field(4, 1), 0,
                field(2, 1) | field(1, 2)
            };
            long[] more = {
                field(0, 4) | field(0, 2), 0, field(2, 6) | field(4, 6), 0, field(6, 2) | field(6, 4), 0,
                field(4, 0) | field(2, 0), 0
            };
            for (int way = 0; way < 8; way++) {
                c.v.faces(0, way);
                long all = just[0] | just[1] | just[3] | just[5] | just[7] | more[0] | more[2] | more[4] | more[6];
                Check.due("way " + way, c.v.sees(0) & all, just[way] | more[way]);
            }
        });
    }

    private static void rocks() {
        Check.sentence(0, "none of the FIELDS between is a rock", () -> {
            Check c = Check.made("37" + "...#..." + "#######" + "#######", "0024", "");
            Check.due("up to the rock", c.v.sees(0), 15);
            c.v.steps(0, 2);
            c.v.steps(0, 2);
            Check.due("beside it", c.v.sees(0), 12);
        });
        Check.sentence(0, "as long as both are between, then only the one that is left, till it is there", () -> {
            // to 2 ROWS and 4 COLUMNS off one goes by 1 1, 2 2, 2 3
            String[] through = {"11", "22", "23"};
            for (int f = 1; f < 35; f++) {
                String place = "" + f / 5 + f % 5;
                StringBuilder s = new StringBuilder(".".repeat(35)).replace(f, f + 1, "#");
                boolean between = place.equals(through[0]) || place.equals(through[1]) || place.equals(through[2]);
                Check c = Check.made("75" + s, "0000", "");
                Check.due("a rock at " + place, c.v.seers(14), between ? 0 : 1);
            }
            // to 6 ROWS and 1 COLUMN off: first across, then down
            Check d = Check.made("75" + "....." + ".#..." + ".".repeat(25), "0000", "");
            Check.due("a rock at 11", d.v.seers(31), 0);
            Check e = Check.made("75" + "....." + "#...." + "#...." + ".".repeat(20), "0000", "");
            Check.due("rocks at 10, 20", e.v.seers(31), 1);
        });
        Check.sentence(0, "(neither end counts)", () -> {
            Check c = Check.made("33.#.......", "0000", "01");
            Check.due("a rock is SEEN itself", c.v.seers(1), 1);
            Check.due("and what is on it", c.v.person(0, 5), 1);
        });
    }

    private static void telling() {
        Check.sentence(0, "and are one ROW and one COLUMN apart at most", () -> {
            String[] near = {"1100", "0000", "0100", "0200", "1000", "1200", "2000", "2100", "2200"};
            for (String place : near) {
                Check c = Check.made(WIDE, "1100;" + place, "");
                Check.due(place, c.v.pairs(), 1);
                c.row(place, 1, 0, 1);
            }
            String[] far = {"3100", "1300", "3300", "3200", "2300", "3000", "0300"};
            for (String place : far) {
                Check c = Check.made(WIDE, "1100;" + place, "");
                Check.due(place, c.v.pairs(), 1);
                c.row(place, 0, 0, 1);
            }
        });
        Check.sentence(0, "each KNOWS what the other one KNOWS, too", () -> {
            // each in turn is the one who KNOWS, and all others hear of it in one HOUR
            for (int knower = 0; knower < 8; knower++) {
                StringBuilder s = new StringBuilder();
                for (int i = 0; i < 8; i++) {
                    s.append(i > 0 ? ";" : "").append(i == knower ? "0000" : "0100");
                }
                Check c = Check.made(SMALL, s.toString(), "00");
                c.rule("0", 0);
                c.v.hours(1);
                Check.due(knower + " alone", c.v.thing(0, 1), 1 << knower);
                c.rule("1", 0);
                c.v.puts(0, 8);
                c.light("1", 1);
                for (int i = 0; i < 8; i++) {
                    c.v.faces(i, i == knower ? 2 : 6);
                }
                c.v.hours(1);
                Check.due(knower + " tells all", c.v.thing(0, 1), 255);
            }
            // both ways at once, and of all that each KNOWS
            Check c = Check.made(SMALL, "0000;2200", "00;00;22");
            c.rule("0", 0);
            c.v.hours(1);
            c.people(3, 3, 4);
            c.v.steps(1, 7);
            c.rule("1", 0);
            c.v.hours(1);
            c.people(3, 7, 7);
        });
        Check.sentence(0, "of two that SEE each other's FIELDS", () -> {
            // side by side: who is looked at alone hears nothing, and tells nothing
            Check c = Check.made(SMALL, "1024;1124", "10");
            c.v.hours(1);
            c.people(3, 1, 0);
            c.v.hours(60);
            c.people(3, 1, 0);
            c.v.faces(1, 6);
            c.v.hours(1);
            c.people(3, 1, 1);
        });
        Check.sentence(0, "all as it is ahead of it", () -> {
            // three beside each other: who SEES a THING in an HOUR tells of it in the next one
            Check c = Check.made("33...######", "0000;0100;0200", "00");
            c.rule("1", 0);
            c.v.hours(1);
            c.people(3, 1, 1, 0);
            c.v.hours(1);
            c.people(3, 1, 1, 1);
            // by what one KNOWS ahead of the HOUR it SEES its own FIELD alone
            Check d = Check.made("33...######", "0000", "00;01");
            d.rule("k", 0);
            d.v.hours(1);
            d.people(3, 1);
            d.v.hours(1);
            d.people(3, 3);
            // and by the LIGHT ahead of it
            Check e = Check.made("33...######", "0000", "01");
            e.light("09", 2);
            e.v.hours(1);
            e.people(3, 0);
            e.v.hours(1);
            e.people(3, 1);
        });
        Check.sentence(0, "HOUR is 1 more", () -> {
            Check c = new Check();
            c.v.hours(1);
            Check.due("HOUR", c.v.count(4), 1);
        });
    }

    private static void rows() {
        Check.sentence(0, "numbers told last by a call that says so", () -> {
            Check c = Check.made(SMALL, "0000", "00");
            Check.due("at first", c.v.count(11), 0);
            c.v.widest();
            c.v.faces(0, 1);
            c.v.steps(0, 3);
            c.v.trims(0, 1);
            c.v.puts(0, 1);
            c.v.undo();
            c.v.keep(0);
            c.v.again(0);
            c.v.sheet(2, 1, 1, 1);
            c.v.heard(0, 1);
            c.v.forget();
            c.v.cock(9, 3);
            c.v.sign(0);
            c.v.end(0);
            c.light("5", 1);
            c.rule("5", 0);
            c.people("0000", 1);
            c.things("00", 1);
            c.v.person(0, 5);
            c.v.thing(0, 2);
            c.v.count(8);
            c.row("as widest() told it", 9, 0, 9);
            c.valley(SMALL, 9);
            c.row("THE VALLEY leaves it", 9, 0, 9);
        });
        Check.sentence(0, "Fractions are told in lowest terms, upper and lower number (0 by 1)", () -> {
            Check c = Check.made(SMALL, "0004;0004", "");
            c.v.storm(8, 1, 0);
            c.row("none", 0, 1);
            c.v.storm(8, 0, 0);
            c.row("all", 1, 1);
            c.v.storm(8, 1, 5);
            c.row("75 by 100", 3, 4);
            c.v.storm(8, 2, 2);
            c.row("4 by 100", 1, 25);
            c.v.storm(8, 2, 3);
            c.row("9 by 100", 9, 100);
        });
    }

    /** An object is used for at most 512 calls: the last of them answer as the first did. */
    private static void calls() {
        BonnetValley v = new BonnetValley();
        Check.put(v, "1100");
        v.people();
        Check.put(v, "00;11");
        v.things();
        for (int i = 6; i < 508; i += 2) {
            Check.due("faces " + i, v.faces(0, i / 2 % 8), i == 6 ? 3 : 1);
            Check.due("count(10)", v.count(10), Math.min(15, i / 2 - 2));
        }
        Check.due("undo", v.undo(), 14);
        Check.due("ahead(99)", v.ahead(99), 2);
        Check.due("row(0)", v.row(0), 3);
    }
}
