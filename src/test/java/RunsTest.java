/** Long runs of calls on fresh objects, right and wrong numbers mixed, each answer as PlainYard answers it. */
public final class RunsTest {
    private static final int RUNS = 600, CALLS = 512;
    private static final int[] WILD = {Integer.MIN_VALUE, -1000, -2, -1, 0, 1, 61, 1025, 100001, 1 << 30, Integer.MAX_VALUE};

    private final TentYard x = new TentYard();
    private final PlainYard plain = new PlainYard();
    private final int days, price, need, own;
    private long seed;

    /** Runs differ by how crowded their days are and by how often what is offered and needed is alike. */
    private RunsTest(int run) {
        seed = run * 7919L + 17;
        days = run % 3 == 0 ? 60 : run % 3 == 1 ? 6 : 2;
        price = run % 4 == 0 ? 100000 : run % 4 == 1 ? 300 : 4;
        need = run % 5 == 0 ? 500 : run % 5 == 1 ? 40 : 3;
        own = Math.min(1000, need * (1 + run % 4));
    }

    public static void main(String[] args) {
        for (int run = 0; run < RUNS && !Check.anyWrong(); run++) {
            new RunsTest(run).go(run);
        }
        Check.end("RunsTest");
    }

    private void go(int run) {
        for (int call = 0; call < CALLS - 1 && !Check.anyWrong(); call++) {
            Check.about("run " + run + ", call " + call);
            int kind = below(100);
            if (call < 60 && kind < 60) {
                begin(kind);
            } else if (kind < 45) {
                turn(kind);
            } else if (kind < 78) {
                ask(kind);
            } else {
                layOut(kind);
            }
        }
        Check.due("digest()", x.digest(), plain.digest());
    }

    /** Pseudo-random, but the same at every start. */
    private int below(int n) {
        seed = seed * 6364136223846793005L + 1442695040888963407L;
        return (int) ((seed >>> 33) % n);
    }

    private int from(int least, int most) {
        int kind = below(60);
        if (kind == 0) {
            return WILD[below(WILD.length)];
        }
        if (kind == 1) {
            return least - 1;
        }
        return kind == 2 ? most + 1 : least + below(most - least + 1);
    }

    private int field() {
        return from(0, Math.max(0, plain.count(0) - 1));
    }

    private int edge(int least, int most) {
        int kind = below(8);
        return kind == 0 ? least : kind == 1 ? most : from(least, most);
    }

    private void begin(int kind) {
        int a = from(0, days), b = from(0, days), p = from(0, price), f = field(), t = from(0, 5), v = from(0, need);
        if (kind < 8) {
            thing();
        } else if (kind < 24) {
            int first = Math.min(a, b), last = below(20) == 0 ? first - 1 : Math.max(a, b);
            Check.due(told("field", first, last, p), x.field(first, last, p), plain.field(first, last, p));
        } else if (kind < 54) {
            Check.due(told("need", f, t, v), x.need(f, t, v), plain.need(f, t, v));
        } else {
            boolean is = below(3) > 0;
            Check.due(told("rain " + is, a), x.rain(a, is), plain.rain(a, is));
        }
    }

    private void thing() {
        int k = from(0, 5), o = from(0, own), d = edge(0, 5), w = edge(1, 100), h = edge(0, below(2) == 0 ? 1000 : 2), c = edge(0, 10000);
        Check.due(told("thing", k, o, d, w, h, c), x.thing(k, o, d, w, h, c), plain.thing(k, o, d, w, h, c));
    }

    private void turn(int kind) {
        int f = field(), t = from(0, 5), v = edge(0, need);
        if (kind < 6) {
            begin(below(60));
        } else if (kind < 12) {
            Check.due(told("take", f), x.take(f), plain.take(f));
        } else if (kind < 17) {
            Check.due(told("hire", f), x.hire(f), plain.hire(f));
        } else if (kind < 18) {
            Check.due(told("giveUp", f), x.giveUp(f), plain.giveUp(f));
        } else if (kind < 25) {
            Check.due(told("change", f, t, v), x.change(f, t, v), plain.change(f, t, v));
        } else if (kind < 27) {
            Check.due(told("back", f), x.back(f), plain.back(f));
        } else if (kind < 35) {
            int n = from(0, 1 + below(1 + need));
            Check.due(told("missing", f, t, n), x.missing(f, t, n), plain.missing(f, t, n));
        } else if (kind < 37) {
            int n = edge(0, below(2) == 0 ? 1000 : 3);
            Check.due(told("mend", t, n), x.mend(t, n), plain.mend(t, n));
        } else {
            int p = edge(0, 99), s = edge(0, 999), soil = from(0, 3);
            Check.due(told("pitch", f, soil, p, s), x.pitch(f, soil, p, s), plain.pitch(f, soil, p, s));
        }
    }

    private void ask(int kind) {
        int set = from(0, (1 << plain.count(0)) - 1), t = from(0, 5), day = from(0, below(2) == 0 ? 65 : days), f = field();
        if (kind < 50) {
            Check.due("best()", x.best(), plain.best());
        } else if (kind < 54) {
            Check.due("dearest()", x.dearest(), plain.dearest());
        } else if (kind < 58) {
            Check.due("fewest()", x.fewest(), plain.fewest());
        } else if (kind < 62) {
            Check.due(told("fits", set), x.fits(set), plain.fits(set));
        } else if (kind < 66) {
            Check.due(told("hired", set), x.hired(set), plain.hired(set));
        } else if (kind < 72) {
            Check.due(told("lack", t, day), x.lack(t, day), plain.lack(t, day));
        } else if (kind < 75) {
            int what = from(0, 6);
            Check.due(told("about", f, what), x.about(f, what), plain.about(f, what));
        } else if (kind < 77) {
            int what = from(0, 5);
            Check.due(told("count", what), x.count(what), plain.count(what));
        } else {
            Check.due("digest()", x.digest(), plain.digest());
        }
    }

    private void layOut(int kind) {
        int g = edge(1, below(2) == 0 ? 5000 : 40), d = edge(1, below(2) == 0 ? 200 : 12), f = field(), day = from(0, days);
        int n = from(1, 3), s = from(0, 3), h = edge(1, 1000), v = edge(0, 60), b = edge(1, below(2) == 0 ? 2000 : 5);
        int seats = edge(4, 60), room = edge(1, below(2) == 0 ? 100000 : 50);
        switch (kind - 78) {
            case 0: Check.due(told("bays", g, seats), x.bays(g, seats), plain.bays(g, seats)); break;
            case 1: case 2: case 3: Check.due(told("law", g, d), x.law(g, d), plain.law(g, d)); break;
            case 4: if (below(8) == 0) { Check.due("unlaw()", x.unlaw(), plain.unlaw()); } break;
            case 5: case 6: Check.due(told("doors", g), x.doors(g), plain.doors(g)); break;
            case 7: case 8: Check.due(told("keeps", g, b), x.keeps(g, b), plain.keeps(g, b)); break;
            case 9: Check.due(told("soil", s, h), x.soil(s, h), plain.soil(s, h)); break;
            case 10: case 11: Check.due(told("bears", f), x.bears(f), plain.bears(f)); break;
            case 12: case 13: Check.due(told("gust", day, v), x.gust(day, v), plain.gust(day, v)); break;
            case 14: case 15: Check.due(told("hours", day, n), x.hours(day, n), plain.hours(day, n)); break;
            case 16: case 17: Check.due(told("crew", day, n, f), x.crew(day, n, f), plain.crew(day, n, f)); break;
            default: Check.due(told("loads", day, room), x.loads(day, room), plain.loads(day, room));
        }
    }

    private static String told(String name, int... numbers) {
        StringBuilder text = new StringBuilder(name).append('(');
        for (int i = 0; i < numbers.length; i++) {
            text.append(i == 0 ? "" : ", ").append(numbers[i]);
        }
        return text.append(')').toString();
    }
}
