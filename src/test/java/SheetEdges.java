/** The edges of promises 23 to 28: judged, film, sheet, drop, item, copy. */
final class SheetEdges {
    private static final int BAD = LoopJudge.BAD, NOT = LoopJudge.NOT, NULL = LoopJudge.NULL, CAST = LoopJudge.CAST,
        INDEX = LoopJudge.INDEX, SIZE = LoopJudge.SIZE;
    private static final int LEAST = Integer.MIN_VALUE, MOST = Integer.MAX_VALUE;

    private SheetEdges() {
    }

    static void run() {
        judged();
        judgedItems();
        judgedIsRefused();
        film();
        filmIsRefused();
        sheet();
        sheetsHoldNewRows();
        drop();
        item();
        itemIsRefused();
        copy();
        copyAsIfTakenAhead();
        copyIsRefused();
        copyOfNoItem();
    }

    /** A scene in which sheet 0 is a row of a lane with these items. */
    private static Scene row(int lane, long... items) {
        return new Scene(judge -> {
            judge.sheet(0, lane, items.length);
            for (int i = 0; i < items.length; i++) {
                judge.item(0, lane, i, items[i]);
            }
        });
    }

    private static void judged() {
        Edge.of(23, "JUDGED by 5 n items of a SHEET taken as a row of a LANE, from item i on.");
        for (int lane = 0; lane < 4; lane++) {
            // s2 + s + 2 by the axis, 2 s + 1 by both, s - 1 by none, 9 s4 + s by the circle
            Scene four = row(lane, 2, 1, 1, 0, 0, 1, 2, 0, 0, 0, -1, 1, 0, 0, 0, 0, 1, 0, 0, 9);
            Edge.due(four.make().judged(0, lane, 0, 4), 1 + 2 + 256 * (2 + 8));
            Edge.due(four.make().judged(0, lane, 0, 1), 1);
            Edge.due(four.make().judged(0, lane, 5, 1), 257);
            Edge.due(four.make().judged(0, lane, 5, 3), 1 + 256 * (1 + 4));
            Edge.due(four.make().judged(0, lane, 15, 1), 256);
            Edge.due(four.make().judged(0, lane, 16, 1), INDEX);
        }
        Edge.of(23, "JUDGED: a row tells n polynomials (1 .. 4), five PARTS each, 0 first, -9 .. 9 each:");
        // the other way round the roots would lie elsewhere
        Edge.due(row(0, 9, 8, 7, 6, 5).make().judged(0, 0, 0, 1), 0);
        Edge.due(row(0, 5, 6, 7, 8, 9).make().judged(0, 0, 0, 1), 256);
        Edge.due(row(0, 1, 3, 3, 0, 0).make().judged(0, 0, 0, 1), 257);
        Edge.due(row(0, 3, 3, 1, 0, 0).make().judged(0, 0, 0, 1), 1);
        Edge.bad(judge -> judge.judged(0, 0, 0, 0));
        Edge.bad(judge -> judge.judged(0, 0, 0, 5));
        Edge.bad(judge -> judge.judged(0, 0, 0, -1));
        Edge.bad(judge -> judge.judged(0, 0, 0, LEAST));
        Edge.bad(judge -> judge.judged(0, 0, 0, MOST));
        Edge.of(23, "which of them are STEADY BY AXIS, BY CIRCLE (a set: bits 0 on, 8 on).");
        for (int set = 0; set < 256; set++) {
            long[] items = new long[20];
            for (int m = 0; m < 4; m++) {
                boolean axis = (set >> m & 1) != 0;
                boolean circle = (set >> (4 + m) & 1) != 0;
                // PART 1 is 3: PART 0 is above 0 for the axis, nearer to 0 than 3 for the circle
                items[5 * m] = circle ? axis ? 1 : -1 : axis ? 4 : -4;
                items[5 * m + 1] = 3;
            }
            Edge.due(row(set % 4, items).make().judged(0, set % 4, 0, 4), (set & 15) + ((set >> 4) << 8));
        }
        Edge.of(23, "STEADY: it has a DEGREE, and all roots are LEFT.");
        Edge.due(row(0, 0, 0, 0, 0, 0).make().judged(0, 0, 0, 1), 0);
        Edge.due(row(0, -1, 0, 0, 0, 0).make().judged(0, 0, 0, 1), 257);
        Edge.due(row(0, 0, 1, 0, 0, 0).make().judged(0, 0, 0, 1), 256);
        Edge.due(row(0, 1, 1, 0, 0, 0).make().judged(0, 0, 0, 1), 1);
    }

    private static void judgedItems() {
        Edge.of(23, "NOT: an item is not -9 .. 9.");
        Edge.refused(Scene.BUSY, judge -> judge.judged(2, 0, 1, 1), NOT);
        for (int lane = 0; lane < 4; lane++) {
            int of = lane;
            for (int place = 0; place < 5; place++) {
                for (int v : new int[] {-9, 9}) {
                    long[] items = new long[5];
                    items[place] = v;
                    Edge.holds(row(lane, items).make().judged(0, lane, 0, 1) >= 0);
                }
                for (int v : new int[] {-128, -10, 10, 127}) {
                    long[] items = new long[20];
                    items[15 + place] = v;
                    Edge.refused(row(lane, items), judge -> judge.judged(0, of, 0, 4), NOT);
                    Edge.refused(row(lane, items), judge -> judge.judged(0, of, 15, 1), NOT);
                    // only the items that are taken count
                    Edge.due(row(lane, items).make().judged(0, lane, 0, 3), 0);
                }
            }
        }
        Edge.refused(row(3, 1L << 32, 0, 0, 0, 0), judge -> judge.judged(0, 3, 0, 1), NOT);
        Edge.refused(row(3, (1L << 32) + 9, 0, 0, 0, 0), judge -> judge.judged(0, 3, 0, 1), NOT);
        Edge.refused(row(3, 0, 0, 0, 0, Long.MIN_VALUE), judge -> judge.judged(0, 3, 0, 1), NOT);
        Edge.refused(row(3, 0, 0, 0, 0, Long.MAX_VALUE), judge -> judge.judged(0, 3, 0, 1), NOT);
        Edge.refused(row(2, 0, 0, MOST, 0, 0), judge -> judge.judged(0, 2, 0, 1), NOT);
        Edge.refused(row(1, 0, 0, -32768, 0, 0), judge -> judge.judged(0, 1, 0, 1), NOT);
        Edge.of(23, "then the first that a call names:");
        Scene wrong = row(1, 99, 99, 99, 99, 99);
        Edge.refused(wrong, judge -> judge.judged(0, 1, 0, 1), NOT);
        Edge.refused(wrong, judge -> judge.judged(0, 1, 1, 1), INDEX);
        Edge.refused(wrong, judge -> judge.judged(0, 1, -1, 1), INDEX);
        Edge.refused(wrong, judge -> judge.judged(0, 1, 0, 2), INDEX);
        Edge.refused(wrong, judge -> judge.judged(0, 2, 0, 1), CAST);
        Edge.refused(wrong, judge -> judge.judged(0, 2, 0, 2), CAST);
        Edge.refused(wrong, judge -> judge.judged(1, 2, -1, 1), NULL);
        Edge.refused(wrong, judge -> judge.judged(0, 1, 0, 5), BAD);
    }

    private static void judgedIsRefused() {
        Edge.of(23, "BAD; NULL; CAST; INDEX;");
        Edge.bad(judge -> judge.judged(-1, 0, 0, 1));
        Edge.bad(judge -> judge.judged(4, 0, 0, 1));
        Edge.bad(judge -> judge.judged(LEAST, 0, 0, 1));
        Edge.bad(judge -> judge.judged(MOST, 0, 0, 1));
        Edge.bad(judge -> judge.judged(0, -1, 0, 1));
        Edge.bad(judge -> judge.judged(0, 4, 0, 1));
        Edge.bad(judge -> judge.judged(0, LEAST, 0, 1));
        Edge.bad(judge -> judge.judged(0, MOST, 0, 1));
        Edge.refused(Scene.BUSY, judge -> judge.judged(3, 0, 0, 1), NULL);
        Edge.refused(Scene.NEW, judge -> judge.judged(0, 0, 0, 1), NULL);
        Edge.refused(Scene.BUSY, judge -> judge.judged(0, 1, 0, 1), CAST);
        Edge.refused(Scene.BUSY, judge -> judge.judged(1, 0, 0, 1), CAST);
        Edge.due(Scene.BUSY.make().judged(0, 0, 4, 4) >= 0 ? 1 : 0, 1);
        Edge.refused(Scene.BUSY, judge -> judge.judged(0, 0, 5, 4), INDEX);
        Edge.refused(Scene.BUSY, judge -> judge.judged(0, 0, 20, 1), INDEX);
        Edge.refused(Scene.BUSY, judge -> judge.judged(0, 0, 24, 1), INDEX);
        Edge.refused(Scene.BUSY, judge -> judge.judged(0, 0, -1, 1), INDEX);
        Edge.refused(Scene.BUSY, judge -> judge.judged(0, 0, LEAST, 4), INDEX);
        Edge.refused(Scene.BUSY, judge -> judge.judged(0, 0, MOST, 4), INDEX);
        Edge.refused(Scene.BUSY, judge -> judge.judged(1, 1, 0, 2), INDEX);
        Edge.refused(Scene.EMPTY_ROW, judge -> judge.judged(1, 2, 0, 1), INDEX);
        Edge.of(23, "of several BAD ahead of all others");
        Edge.refused(Scene.BUSY, judge -> judge.judged(3, 0, 0, 0), BAD);
        Edge.refused(Scene.BUSY, judge -> judge.judged(0, 1, 0, 5), BAD);
        Edge.refused(Scene.BUSY, judge -> judge.judged(0, 0, -1, 5), BAD);
        Edge.refused(Scene.BUSY, judge -> judge.judged(2, 4, 1, 1), BAD);
        Edge.of(23, "NULL, CAST, INDEX, SIZE in this order;");
        Edge.refused(Scene.BUSY, judge -> judge.judged(3, 2, -1, 1), NULL);
        Edge.refused(Scene.BUSY, judge -> judge.judged(0, 2, -1, 1), CAST);
        Edge.refused(Scene.BUSY, judge -> judge.judged(2, 1, 99, 4), CAST);
    }

    private static void film() {
        Edge.of(24, "PARTS of P, Q, 0 first, five items, come to a SHEET likewise: 5.");
        for (int lane = 0; lane < 4; lane++) {
            int of = lane;
            Scene told = row(lane, 7, 7, 7, 7, 7, 7, 7, 7, 7, 7, 7, 7)
                .then(judge -> Check.read(judge, "9s4-9s3+s-1;-9s4+9s3-2s2-s+1"));
            Edge.due(told.make().film(0, 0, lane, 1), 5);
            Edge.dueItems(told.then(judge -> judge.film(0, 0, of, 1)), 0, 7, -1, 1, 0, -9, 9, 7, 7, 7, 7, 7, 7);
            Edge.dueItems(told.then(judge -> judge.film(1, 0, of, 7)), 0, 7, 7, 7, 7, 7, 7, 7, 1, -1, -2, 9, -9);
            Edge.dueItems(told.then(judge -> judge.film(0, 0, of, 0)), 0, -1, 1, 0, -9, 9, 7, 7, 7, 7, 7, 7, 7);
        }
        // a row of just five items
        Edge.due(row(0, 1, 2, 3, 4, 5).make().film(0, 0, 0, 0), 5);
        Edge.dueItems(row(0, 1, 2, 3, 4, 5).then(judge -> judge.film(1, 0, 0, 0)), 0, 1, 0, 0, 0, 0);
        // P itself, and what may be undone, stay
        LoopJudge judge = row(0, 1, 2, 3, 4, 5).make();
        judge.film(0, 0, 0, 0);
        Edge.dueParts(judge, 0, 1, 1, 0, 0, 0);
        Edge.due(judge.count(4), 0);
    }

    private static void filmIsRefused() {
        Edge.of(24, "BAD; NULL; CAST; INDEX.");
        Edge.bad(judge -> judge.film(-1, 0, 0, 0));
        Edge.bad(judge -> judge.film(2, 0, 0, 0));
        Edge.bad(judge -> judge.film(LEAST, 0, 0, 0));
        Edge.bad(judge -> judge.film(MOST, 0, 0, 0));
        Edge.bad(judge -> judge.film(0, -1, 0, 0));
        Edge.bad(judge -> judge.film(0, 4, 0, 0));
        Edge.bad(judge -> judge.film(0, LEAST, 0, 0));
        Edge.bad(judge -> judge.film(0, MOST, 0, 0));
        Edge.bad(judge -> judge.film(0, 0, -1, 0));
        Edge.bad(judge -> judge.film(0, 0, 4, 0));
        Edge.bad(judge -> judge.film(0, 0, LEAST, 0));
        Edge.bad(judge -> judge.film(0, 0, MOST, 0));
        Edge.refused(Scene.BUSY, judge -> judge.film(0, 3, 0, 0), NULL);
        Edge.refused(Scene.BUSY, judge -> judge.film(0, 0, 1, 0), CAST);
        Edge.refused(Scene.BUSY, judge -> judge.film(1, 1, 0, 0), CAST);
        Edge.due(Scene.BUSY.make().film(0, 0, 0, 19), 5);
        Edge.refused(Scene.BUSY, judge -> judge.film(0, 0, 0, 20), INDEX);
        Edge.refused(Scene.BUSY, judge -> judge.film(0, 0, 0, 24), INDEX);
        Edge.refused(Scene.BUSY, judge -> judge.film(1, 0, 0, -1), INDEX);
        Edge.refused(Scene.BUSY, judge -> judge.film(1, 1, 1, 3), INDEX);
        Edge.refused(Scene.BUSY, judge -> judge.film(0, 0, 0, LEAST), INDEX);
        Edge.refused(Scene.BUSY, judge -> judge.film(0, 0, 0, MOST), INDEX);
        Edge.refused(Scene.EMPTY_ROW, judge -> judge.film(0, 1, 2, 0), INDEX);
        Edge.refused(row(0, 1, 2, 3, 4), judge -> judge.film(0, 0, 0, 0), INDEX);
        Edge.of(24, "of several BAD ahead of all others");
        Edge.refused(Scene.BUSY, judge -> judge.film(2, 3, 0, 0), BAD);
        Edge.refused(Scene.BUSY, judge -> judge.film(2, 0, 1, 0), BAD);
        Edge.refused(Scene.BUSY, judge -> judge.film(-1, 0, 0, -1), BAD);
        Edge.refused(Scene.BUSY, judge -> judge.film(0, 3, 4, 0), BAD);
        Edge.of(24, "NULL, CAST, INDEX, SIZE in this order;");
        Edge.refused(Scene.BUSY, judge -> judge.film(0, 3, 1, -1), NULL);
        Edge.refused(Scene.BUSY, judge -> judge.film(0, 0, 1, -1), CAST);
    }

    private static void sheet() {
        Edge.of(25, "A SHEET holds a new row of a LANE: n.");
        for (int sheet = 0; sheet < 4; sheet++) {
            for (int lane = 0; lane < 4; lane++) {
                LoopJudge judge = Scene.BUSY.make();
                Edge.due(judge.sheet(sheet, lane, 24), 24);
                Edge.due(judge.item(sheet, lane, 23, 1), 1);
                Edge.due(judge.item(sheet, lane, 24, 1), INDEX);
                Edge.due(judge.item(sheet, (lane + 1) % 4, 0, 1), CAST);
                Edge.due(judge.sheet(sheet, lane, 0), 0);
                Edge.due(judge.item(sheet, lane, 0, 1), INDEX);
                Edge.due(judge.drop(sheet), 0);
            }
        }
        Edge.of(25, "BAD: also n above 24");
        Edge.bad(judge -> judge.sheet(0, 0, 25));
        Edge.bad(judge -> judge.sheet(1, 3, MOST));
        Edge.bad(judge -> judge.sheet(-1, 0, 3));
        Edge.bad(judge -> judge.sheet(4, 0, 3));
        Edge.bad(judge -> judge.sheet(LEAST, 0, 3));
        Edge.bad(judge -> judge.sheet(MOST, 0, 3));
        Edge.bad(judge -> judge.sheet(0, -1, 3));
        Edge.bad(judge -> judge.sheet(0, 4, 3));
        Edge.bad(judge -> judge.sheet(0, LEAST, 3));
        Edge.bad(judge -> judge.sheet(0, MOST, 3));
        Edge.of(25, "SIZE: n below 0.");
        for (Scene scene : Scene.ALL) {
            Edge.refused(scene, judge -> judge.sheet(0, 0, -1), SIZE);
            Edge.refused(scene, judge -> judge.sheet(3, 3, LEAST), SIZE);
        }
        Edge.of(25, "of several BAD ahead of all others");
        Edge.bad(judge -> judge.sheet(4, 0, -1));
        Edge.bad(judge -> judge.sheet(-1, 0, -1));
        Edge.bad(judge -> judge.sheet(0, 4, -1));
        Edge.bad(judge -> judge.sheet(0, -1, LEAST));
    }

    private static void sheetsHoldNewRows() {
        Edge.of(25, "A SHEET holds a new row of a LANE");
        Scene full = row(0, 1, 2, 3, 4, 5, 6);
        Edge.dueItems(full.then(judge -> judge.sheet(0, 0, 6)), 0, 0, 0, 0, 0, 0, 0);
        Edge.dueItems(full.then(judge -> judge.sheet(0, 3, 3)), 0, 0, 0, 0);
        Edge.dueItems(full.then(judge -> judge.drop(0)).then(judge -> judge.sheet(0, 0, 6)), 0, 0, 0, 0, 0, 0, 0);
        Edge.dueItems(full.then(judge -> judge.sheet(0, 0, 2)).then(judge -> judge.sheet(0, 0, 6)), 0, 0, 0, 0, 0, 0, 0);
        // one sheet, and no other
        Edge.dueItems(full.then(judge -> judge.sheet(1, 0, 6)), 0, 1, 2, 3, 4, 5, 6);
        Edge.of(25, "sheets 0 .. 3: nothing (at first), or a row of a LANE: 0 bytes, 1 shorts, 2 ints, 3 longs (all with a sign), of 0 to 24 items.");
        Edge.due(new LoopJudge().sheet(0, 0, 0), 0);
        Edge.due(new LoopJudge().sheet(3, 3, 24), 24);
        Edge.bad(judge -> judge.sheet(3, 3, 25));
    }

    private static void drop() {
        Edge.of(26, "A SHEET holds nothing: how many items it had.");
        for (int sheet = 0; sheet < 4; sheet++) {
            for (int n : new int[] {0, 1, 24}) {
                LoopJudge judge = new LoopJudge();
                judge.sheet(sheet, sheet, n);
                Edge.due(judge.drop(sheet), n);
                Edge.due(judge.item(sheet, sheet, 0, 1), NULL);
                Edge.due(judge.drop(sheet), NULL);
            }
        }
        Edge.dueItems(row(0, 1, 2, 3).then(judge -> judge.sheet(1, 0, 4)).then(judge -> judge.drop(1)), 0, 1, 2, 3);
        Edge.of(26, "BAD; NULL.");
        Edge.bad(judge -> judge.drop(-1));
        Edge.bad(judge -> judge.drop(4));
        Edge.bad(judge -> judge.drop(LEAST));
        Edge.bad(judge -> judge.drop(MOST));
        Edge.refused(Scene.BUSY, judge -> judge.drop(3), NULL);
        Edge.refused(Scene.NEW, judge -> judge.drop(0), NULL);
        Edge.refused(Scene.NOTHING, judge -> judge.drop(3), NULL);
        Edge.refused(Scene.BUSY.then(judge -> judge.drop(0)), judge -> judge.drop(0), NULL);
    }

    private static void item() {
        Edge.of(27, "Item i of a SHEET, taken as a row of a LANE, becomes v, its lowest bits: 1.");
        for (int lane = 0; lane < 4; lane++) {
            int of = lane;
            Scene zeros = row(lane, 0, 0, 0, 0);
            Edge.due(zeros.make().item(0, lane, 0, 5), 1);
            Edge.due(zeros.make().item(0, lane, 3, 5), 1);
            Edge.dueItems(zeros.then(judge -> judge.item(0, of, 0, 9)), 0, 9, 0, 0, 0);
            Edge.dueItems(zeros.then(judge -> judge.item(0, of, 3, -9)), 0, 0, 0, 0, -9);
            // what is so becomes so again: 1, not NOT
            Edge.due(zeros.make().item(0, lane, 2, 0), 1);
        }
        Integer beyond = null;
        dueLowestBits(0, (1L << 8) + 3, 3);
        dueLowestBits(0, (1L << 8) - 4, -4);
        dueLowestBits(0, Long.MIN_VALUE, 0);
        dueLowestBits(0, Long.MAX_VALUE, -1);
        dueLowestBits(0, 128, beyond);
        dueLowestBits(0, -129, beyond);
        dueLowestBits(1, (1L << 8) + 3, beyond);
        dueLowestBits(1, (1L << 16) + 3, 3);
        dueLowestBits(1, (1L << 16) - 4, -4);
        dueLowestBits(1, Long.MIN_VALUE + 9, 9);
        dueLowestBits(2, (1L << 16) + 3, beyond);
        dueLowestBits(2, (1L << 32) + 3, 3);
        dueLowestBits(2, (1L << 32) - 4, -4);
        dueLowestBits(2, Long.MAX_VALUE - 8, -9);
        dueLowestBits(3, (1L << 32) + 3, beyond);
        dueLowestBits(3, (1L << 32) - 4, beyond);
        dueLowestBits(3, Long.MIN_VALUE, beyond);
        dueLowestBits(3, -9, -9);
        Edge.of(27, "0 bytes, 1 shorts, 2 ints, 3 longs (all with a sign)");
        dueLowestBits(0, 255, -1);
        dueLowestBits(1, 65535, -1);
        dueLowestBits(2, 0xffffffffL, -1);
        dueLowestBits(3, -1, -1);
        dueLowestBits(3, 0xffffffffL, beyond);
    }

    private static void dueLowestBits(int lane, long v, Integer due) {
        Edge.dueItems(row(lane, 1, v, 2), 0, 1, due, 2);
    }

    private static void itemIsRefused() {
        Edge.of(27, "BAD; NULL; CAST; INDEX.");
        Edge.bad(judge -> judge.item(-1, 0, 0, 1));
        Edge.bad(judge -> judge.item(4, 0, 0, 1));
        Edge.bad(judge -> judge.item(LEAST, 0, 0, 1));
        Edge.bad(judge -> judge.item(MOST, 0, 0, 1));
        Edge.bad(judge -> judge.item(0, -1, 0, 1));
        Edge.bad(judge -> judge.item(0, 4, 0, 1));
        Edge.bad(judge -> judge.item(0, LEAST, 0, 1));
        Edge.bad(judge -> judge.item(0, MOST, 0, 1));
        Edge.refused(Scene.BUSY, judge -> judge.item(3, 0, 0, 1), NULL);
        Edge.refused(Scene.NEW, judge -> judge.item(0, 0, 0, 1), NULL);
        for (int lane = 1; lane < 4; lane++) {
            int of = lane;
            Edge.refused(Scene.BUSY, judge -> judge.item(0, of, 0, 1), CAST);
        }
        Edge.refused(Scene.BUSY, judge -> judge.item(1, 0, 0, 1), CAST);
        Edge.refused(Scene.BUSY, judge -> judge.item(0, 0, 24, 1), INDEX);
        Edge.refused(Scene.BUSY, judge -> judge.item(1, 1, 7, 1), INDEX);
        Edge.refused(Scene.BUSY, judge -> judge.item(0, 0, -1, 1), INDEX);
        Edge.refused(Scene.BUSY, judge -> judge.item(0, 0, LEAST, 1), INDEX);
        Edge.refused(Scene.BUSY, judge -> judge.item(0, 0, MOST, 1), INDEX);
        Edge.refused(Scene.EMPTY_ROW, judge -> judge.item(1, 2, 0, 1), INDEX);
        Edge.of(27, "of several BAD ahead of all others");
        Edge.refused(Scene.BUSY, judge -> judge.item(3, 4, 0, 1), BAD);
        Edge.refused(Scene.BUSY, judge -> judge.item(0, 4, -1, 1), BAD);
        Edge.refused(Scene.BUSY, judge -> judge.item(4, 1, 99, 1), BAD);
        Edge.of(27, "NULL, CAST, INDEX, SIZE in this order;");
        Edge.refused(Scene.BUSY, judge -> judge.item(3, 1, -1, 1), NULL);
        Edge.refused(Scene.BUSY, judge -> judge.item(0, 1, 24, 1), CAST);
        Edge.refused(Scene.BUSY, judge -> judge.item(0, 1, -1, 1), CAST);
    }

    /** Sheet 0 is 1 .. 6, sheet 1 is 7, 8, 9, both of one lane. */
    private static Scene twoRows(int lane) {
        return row(lane, 1, 2, 3, 4, 5, 6).then(judge -> judge.sheet(1, lane, 3))
            .then(judge -> judge.item(1, lane, 0, 7) + judge.item(1, lane, 1, 8) + judge.item(1, lane, 2, 9));
    }

    private static void copy() {
        Edge.of(28, "n items of a SHEET from i on come to another one (or the same) from j on");
        for (int lane = 0; lane < 4; lane++) {
            Scene rows = twoRows(lane);
            Edge.due(rows.make().copy(0, 3, 1, 0, 3), 3);
            Edge.dueItems(rows.then(judge -> judge.copy(0, 3, 1, 0, 3)), 1, 4, 5, 6);
            Edge.dueItems(rows.then(judge -> judge.copy(0, 3, 1, 0, 3)), 0, 1, 2, 3, 4, 5, 6);
            Edge.dueItems(rows.then(judge -> judge.copy(1, 0, 0, 3, 3)), 0, 1, 2, 3, 7, 8, 9);
            Edge.dueItems(rows.then(judge -> judge.copy(1, 2, 0, 0, 1)), 0, 9, 2, 3, 4, 5, 6);
            Edge.due(rows.make().copy(0, 0, 0, 0, 6), 6);
            Edge.dueItems(rows.then(judge -> judge.copy(0, 0, 0, 0, 6)), 0, 1, 2, 3, 4, 5, 6);
        }
        Scene longs = row(3, 1L << 40, 2, 3).then(judge -> judge.sheet(1, 3, 2));
        Edge.dueItems(longs.then(judge -> judge.copy(0, 0, 1, 0, 2)), 1, null, 2);
        LoopJudge full = new LoopJudge();
        full.sheet(0, 0, 24);
        full.sheet(1, 0, 24);
        Edge.due(full.copy(0, 0, 1, 0, 24), 24);
        Edge.due(full.copy(0, 0, 1, 0, 25), INDEX);
    }

    private static void copyAsIfTakenAhead() {
        Edge.of(28, ", as if all were taken ahead: n.");
        Scene rows = twoRows(0);
        Edge.due(rows.make().copy(0, 0, 0, 2, 4), 4);
        Edge.dueItems(rows.then(judge -> judge.copy(0, 0, 0, 2, 4)), 0, 1, 2, 1, 2, 3, 4);
        Edge.dueItems(rows.then(judge -> judge.copy(0, 2, 0, 0, 4)), 0, 3, 4, 5, 6, 5, 6);
        Edge.dueItems(rows.then(judge -> judge.copy(0, 0, 0, 1, 5)), 0, 1, 1, 2, 3, 4, 5);
        Edge.dueItems(rows.then(judge -> judge.copy(0, 1, 0, 0, 5)), 0, 2, 3, 4, 5, 6, 6);
    }

    private static void copyIsRefused() {
        Edge.of(28, "BAD; NULL (either);");
        Edge.bad(judge -> judge.copy(-1, 0, 0, 0, 1));
        Edge.bad(judge -> judge.copy(4, 0, 0, 0, 1));
        Edge.bad(judge -> judge.copy(LEAST, 0, 0, 0, 1));
        Edge.bad(judge -> judge.copy(MOST, 0, 0, 0, 1));
        Edge.bad(judge -> judge.copy(0, 0, -1, 0, 1));
        Edge.bad(judge -> judge.copy(0, 0, 4, 0, 1));
        Edge.bad(judge -> judge.copy(0, 0, LEAST, 0, 1));
        Edge.bad(judge -> judge.copy(0, 0, MOST, 0, 1));
        Edge.refused(Scene.BUSY, judge -> judge.copy(3, 0, 0, 0, 1), NULL);
        Edge.refused(Scene.BUSY, judge -> judge.copy(0, 0, 3, 0, 1), NULL);
        Edge.refused(Scene.BUSY, judge -> judge.copy(3, 0, 3, 0, 0), NULL);
        Edge.refused(Scene.NEW, judge -> judge.copy(0, 0, 1, 0, 0), NULL);
        Edge.of(28, "CAST: of unlike LANES;");
        Edge.refused(Scene.BUSY, judge -> judge.copy(0, 0, 1, 0, 1), CAST);
        Edge.refused(Scene.BUSY, judge -> judge.copy(1, 0, 0, 0, 1), CAST);
        Edge.refused(Scene.BUSY, judge -> judge.copy(1, 0, 2, 0, 0), CAST);
        Edge.of(28, "INDEX (n below 0, too).");
        Edge.refused(Scene.BUSY, judge -> judge.copy(0, 0, 2, 0, -1), INDEX);
        Edge.refused(Scene.BUSY, judge -> judge.copy(0, 5, 0, 5, -1), INDEX);
        Edge.refused(Scene.BUSY, judge -> judge.copy(0, 0, 2, 0, LEAST), INDEX);
        Edge.refused(Scene.BUSY, judge -> judge.copy(0, 0, 2, 0, MOST), INDEX);
        Edge.refused(Scene.BUSY, judge -> judge.copy(0, 19, 2, 0, 6), INDEX);
        Edge.refused(Scene.BUSY, judge -> judge.copy(0, 0, 2, 1, 6), INDEX);
        Edge.refused(Scene.BUSY, judge -> judge.copy(2, 1, 0, 0, 6), INDEX);
        Edge.refused(Scene.BUSY, judge -> judge.copy(0, -1, 2, 0, 1), INDEX);
        Edge.refused(Scene.BUSY, judge -> judge.copy(0, 0, 2, -1, 1), INDEX);
        Edge.refused(Scene.BUSY, judge -> judge.copy(0, 24, 2, 0, 1), INDEX);
        Edge.refused(Scene.BUSY, judge -> judge.copy(0, 0, 2, 6, 1), INDEX);
        Edge.refused(Scene.BUSY, judge -> judge.copy(0, MOST, 2, 0, MOST), INDEX);
        Edge.refused(Scene.BUSY, judge -> judge.copy(0, LEAST, 2, LEAST, LEAST), INDEX);
        Edge.due(Scene.BUSY.make().copy(0, 18, 2, 0, 6), 6);
        Edge.of(28, "of several BAD ahead of all others");
        Edge.refused(Scene.BUSY, judge -> judge.copy(3, 0, 4, 0, 1), BAD);
        Edge.refused(Scene.BUSY, judge -> judge.copy(4, 0, 3, 0, 1), BAD);
        Edge.refused(Scene.BUSY, judge -> judge.copy(0, -1, 4, 0, -1), BAD);
        Edge.of(28, "NULL, CAST, INDEX, SIZE in this order;");
        Edge.refused(Scene.BUSY, judge -> judge.copy(0, -1, 3, 0, 1), NULL);
        Edge.refused(Scene.BUSY, judge -> judge.copy(3, 0, 1, 0, -1), NULL);
        Edge.refused(Scene.BUSY, judge -> judge.copy(0, -1, 1, 0, 1), CAST);
        Edge.refused(Scene.BUSY, judge -> judge.copy(0, 0, 1, 0, -1), CAST);
    }

    private static void copyOfNoItem() {
        Edge.of(28, "INDEX also where no item is taken, if i, j is below 0, or above how many there are).");
        Edge.due(Scene.BUSY.make().copy(0, 0, 2, 0, 0), 0);
        Edge.due(Scene.BUSY.make().copy(0, 24, 2, 6, 0), 0);
        Edge.changesNothing(Scene.BUSY, judge -> judge.copy(0, 24, 2, 6, 0));
        Edge.refused(Scene.BUSY, judge -> judge.copy(0, 25, 2, 6, 0), INDEX);
        Edge.refused(Scene.BUSY, judge -> judge.copy(0, 24, 2, 7, 0), INDEX);
        Edge.refused(Scene.BUSY, judge -> judge.copy(0, -1, 2, 0, 0), INDEX);
        Edge.refused(Scene.BUSY, judge -> judge.copy(0, 0, 2, -1, 0), INDEX);
        Edge.refused(Scene.BUSY, judge -> judge.copy(0, MOST, 2, 0, 0), INDEX);
        Edge.refused(Scene.BUSY, judge -> judge.copy(0, 0, 2, MOST, 0), INDEX);
        Edge.due(Scene.EMPTY_ROW.make().copy(1, 0, 1, 0, 0), 0);
        Edge.refused(Scene.EMPTY_ROW, judge -> judge.copy(1, 1, 1, 0, 0), INDEX);
        Edge.refused(Scene.EMPTY_ROW, judge -> judge.copy(1, 0, 1, 1, 0), INDEX);
        Edge.refused(Scene.EMPTY_ROW, judge -> judge.copy(1, 0, 1, 0, 1), INDEX);
    }
}
