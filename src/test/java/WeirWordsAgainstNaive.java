import java.lang.reflect.Method;
import java.lang.reflect.Modifier;
import java.util.ArrayList;
import java.util.Comparator;
import java.util.List;
import java.util.Random;

/** Random runs of calls, the same on WeirWords and on NaiveWeir: every answer must be the same. */
public final class WeirWordsAgainstNaive {
    private static final int[] EXTREMES = {
        Integer.MIN_VALUE, Integer.MIN_VALUE + 1, Integer.MAX_VALUE, Integer.MAX_VALUE - 1, -1, 61, 1000000, -1000000
    };

    public static void main(String[] args) throws Exception {
        int runs = args.length > 0 ? Integer.parseInt(args[0]) : 4000;
        long seed = args.length > 1 ? Long.parseLong(args[1]) : 1;
        List<Method> calls = new ArrayList<>();
        for (Method m : WeirWords.class.getDeclaredMethods()) {
            if (Modifier.isPublic(m.getModifiers())) calls.add(m);
        }
        calls.sort(Comparator.comparing(Method::getName));
        int wrong = 0;
        long made = 0;
        for (int run = 0; run < runs && wrong < 20; run++) {
            Random random = new Random(seed * 1000003 + run);
            WeirWords real = new WeirWords();
            NaiveWeir naive = new NaiveWeir();
            List<String> before = new ArrayList<>();
            for (int n = 0; n < 300; n++) {
                List<Object[]> batch = next(random, calls, naive);
                for (Object[] call : batch) {
                    Method m = (Method) call[0];
                    int[] a = (int[]) call[1];
                    Object[] boxed = new Object[a.length];
                    for (int i = 0; i < a.length; i++) boxed[i] = a[i];
                    int got = (int) m.invoke(real, boxed);
                    Method slow = NaiveWeir.class.getDeclaredMethod(m.getName(), m.getParameterTypes());
                    int want = (int) slow.invoke(naive, boxed);
                    made++;
                    String told = m.getName() + java.util.Arrays.toString(a) + " = " + got;
                    before.add(told);
                    if (got != want) {
                        wrong++;
                        System.out.println("run " + run + ": " + told + ", due is " + want);
                        System.out.println("  ahead of it: " + before.subList(Math.max(0, before.size() - 120), before.size()));
                        n = 300;
                        break;
                    }
                }
            }
        }
        System.out.println(made + " calls beside the naive one");
        System.out.println((wrong == 0 ? 1 : 0) + " passed, " + (wrong == 0 ? 0 : 1) + " failed");
        if (wrong != 0) System.exit(1);
    }

    private static List<Object[]> next(Random random, List<Method> calls, NaiveWeir naive) throws Exception {
        List<Object[]> batch = new ArrayList<>();
        int pick = random.nextInt(100);
        if (naive.river == null && pick < 60 || pick < 2) {
            String text = text(random);
            Method feed = WeirWords.class.getMethod("feed", int.class);
            for (char c : text.toCharArray()) batch.add(new Object[] {feed, new int[] {c}});
            batch.add(new Object[] {WeirWords.class.getMethod("river"), new int[0]});
            if (random.nextInt(4) == 0) {
                batch.add(new Object[] {WeirWords.class.getMethod("fault"), new int[0]});
            }
            return batch;
        }
        if (pick < 8 && naive.river != null && !naive.river.words.isEmpty()) {
            told(random, batch, naive.river);
            return batch;
        }
        if (pick < 16 && naive.river != null && !naive.river.words.isEmpty()) {
            int[] a = {random.nextInt(naive.river.words.size()), 1 + random.nextInt(60),
                random.nextInt(naive.river.speeds.length)};
            batch.add(new Object[] {WeirWords.class.getMethod("say", int.class, int.class, int.class), a});
            return batch;
        }
        Method m = calls.get(random.nextInt(calls.size()));
        boolean rare = m.getName().equals("river") || m.getName().equals("drop") || m.getName().equals("swift");
        if (rare && random.nextInt(6) > 0) m = WeirWords.class.getMethod("minutes", int.class);
        int[] a = new int[m.getParameterCount()];
        int[] most = most(m.getName());
        for (int i = 0; i < a.length; i++) {
            int top = most[i];
            if (naive.river != null && top == 6) top = naive.river.words.size() - 1;
            if (naive.river != null && top == 11) top = naive.river.speeds.length - 1;
            int odd = random.nextInt(100);
            a[i] = odd == 0 ? EXTREMES[random.nextInt(EXTREMES.length)]
                : odd < 4 ? random.nextInt(top + 3) - 1
                : random.nextInt(Math.max(1, top + 1));
        }
        if (m.getName().equals("minutes") && random.nextInt(5) > 0) a[0] = 1;
        batch.add(new Object[] {m, a});
        return batch;
    }

    /** A row that tells how a word would go, were one thing about it or the rain another. */
    private static void told(Random random, List<Object[]> batch, NaiveWeir.River now) throws Exception {
        Method row = WeirWords.class.getMethod("row", int.class, int.class, int.class);
        Method set = WeirWords.class.getMethod("set", int.class, int.class, int.class);
        Method fits = WeirWords.class.getMethod("fits", int.class, int.class, int.class, int.class, int.class);
        int r = random.nextInt(8);
        int start = random.nextInt(3);
        int n = 1 + random.nextInt(random.nextInt(2) == 0 ? 3 : 12);
        int word = random.nextInt(now.words.size());
        NaiveWeir.River other = now.fresh();
        NaiveWeir.Word was = other.words.get(word);
        NaiveWeir.Word w = random.nextInt(3) > 0 ? was : NaiveWeir.wordOf(1 + random.nextInt(5));
        w.number = word;
        w.size = random.nextInt(3) > 0 ? was.size : 1 + random.nextInt(60);
        w.cell = random.nextInt(3) > 0 ? was.cell : random.nextInt(now.speeds.length);
        other.words.set(word, w);
        if (random.nextInt(3) == 0) other.rain = random.nextInt(16);
        batch.add(new Object[] {row, new int[] {r, random.nextInt(3), start + n + random.nextInt(3)}});
        for (int i = 0; i < n; i++) {
            other.pass(other.wet());
            int item = random.nextInt(30) == 0 ? random.nextInt(100) : w.gone ? 99 : w.cell;
            batch.add(new Object[] {set, new int[] {r, start + i, item}});
        }
        for (int what = 0; what < 5; what++) {
            batch.add(new Object[] {fits, new int[] {word, r, start, n, what}});
        }
    }

    private static int[] most(String name) {
        switch (name) {
            case "row": return new int[] {7, 2, 40};
            case "set": return new int[] {7, 40, 70000};
            case "copy": return new int[] {7, 10, 7, 10, 20};
            case "feed": return new int[] {255};
            case "minutes": return new int[] {24};
            case "say": return new int[] {6, 60, 11};
            case "speed": return new int[] {11, 3};
            case "rain": return new int[] {15};
            case "word": return new int[] {6, 3};
            case "cell": return new int[] {11, 2};
            case "ahead": return new int[] {6, 20, 1};
            case "quarrel": return new int[] {60};
            case "calm": case "swift": return new int[] {30, 1};
            case "stir": return new int[] {6, 11, 30};
            case "share": return new int[] {6, 999};
            case "fits": return new int[] {6, 7, 4, 3, 4};
            case "chance": return new int[] {6, 8, 10, 1};
            case "drawn": return new int[] {60, 999999, 1};
            case "image": case "restore": return new int[] {1};
            case "as": return new int[] {6, 5};
            case "ask": return new int[] {6, 1};
            case "trace": return new int[] {16};
            case "count": return new int[] {9};
            default: return new int[] {6, 6, 6, 6, 6};
        }
    }

    private static String text(Random random) {
        StringBuilder s = new StringBuilder();
        boolean off = random.nextInt(5) == 0;
        s.append('r').append(random.nextInt(16)).append(',').append(random.nextInt(off ? 13 : 11)).append(';');
        int cells = random.nextInt(2) == 0 ? (off ? 3 : 4) + random.nextInt(off ? 11 : 9) : 4 + random.nextInt(5);
        for (int i = 0; i < cells; i++) s.append('c').append(random.nextInt(off && random.nextInt(9) == 0 ? 5 : 4)).append(';');
        int words = off ? random.nextInt(9) : random.nextInt(8);
        for (int i = 0; i < words; i++) {
            s.append("shfme".charAt(random.nextInt(random.nextInt(3) == 0 ? 5 : 3)));
            s.append(random.nextInt(off ? 62 : 60) + (off ? 0 : 1)).append(',').append(random.nextInt(cells)).append(';');
        }
        if (random.nextInt(6) == 0) {
            int at = random.nextInt(s.length());
            String odd = "rcshfme,;0123456789 \u00e9Z";
            char c = odd.charAt(random.nextInt(odd.length()));
            switch (random.nextInt(3)) {
                case 0: s.setCharAt(at, c); break;
                case 1: s.insert(at, c); break;
                default: s.setLength(at);
            }
        }
        return s.toString();
    }
}
