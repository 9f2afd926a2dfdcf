import java.util.Arrays;

/** Homes on one cable whose machines run when power is cheap: prices, jobs, rules, plans and stores. */
public final class PlugHours {
    public static final int NONE = -1;
    public static final long BEYOND = -4000000000000000000L;

    private static final int HOURS = 168;
    private static final int DAY = 24;
    private static final int LAST_KNOWN = 1000;
    private static final int MOST_STEP = 48;

    private static final int MOST_PRICES = 400;
    private static final int LOWEST_PRICE = -1000;
    private static final int HIGHEST_PRICE = 10000;
    private static final int FIRST_PLAIN = 100;
    private static final int NO_PRICE = -5000;

    private static final int MOST_HOMES = 4;
    private static final int MOST_FUSE = 20000;
    private static final int MOST_CABLE = 80000;
    private static final int MOST_WATTS = 5000;

    private static final int MOST_JOBS = 16;
    private static final int JOB_HOURS = 4;
    private static final int WINDOW = 24;
    private static final int FEW = 5;

    private static final int OPEN = 0;
    private static final int PLANNED = 1;
    private static final int DONE = 2;

    private static final int MOST_TAPE = 300;
    private static final int MOST_RULES = 20;
    private static final int BLANK = 32;

    private static final int MOST_STORES = 6;
    private static final int MOST_LEVEL = 40;
    private static final int MOST_MOVE = 10;
    private static final int MOST_LOSS = 3;
    private static final int MOST_STORE_WATTS = 1000;
    private static final int NO_FILLING = -1000;

    private static final int BAD_NUMBER = -1;
    private static final int NO_SUCH = -2;
    private static final int BEGUN = -3;
    private static final int NO_ROOM = -5;
    private static final int NO_WAY = -6;

    /** Above every cost, and far enough from the end of a long to be added to. */
    private static final long FAR = 1000000000000000000L;

    private final Prices prices;
    private final Grid grid;
    private final Jobs jobs;
    private final Planner planner;
    private final Reader reader;
    private final Stores stores;
    private Rules draft;
    private int faultPlace;
    private int refusal;

    public PlugHours() {
        prices = new Prices();
        grid = new Grid();
        jobs = new Jobs(grid);
        planner = new Planner(prices, grid, jobs);
        reader = new Reader();
        stores = new Stores(prices, grid);
        draft = new Rules();
        faultPlace = NONE;
        refusal = 0;
    }

    public int price(int hour, int price, int known) {
        if (!isHour(hour) || !isPrice(price) || !isKnown(known)) {
            return refuse(BAD_NUMBER);
        }
        if (prices.size >= MOST_PRICES) {
            return refuse(NO_ROOM);
        }
        prices.tell(hour, price, known);
        if (known <= planner.now) {
            prices.today[hour] = price;
        }
        return accept(prices.size);
    }

    public int plain(int price) {
        if (!isPrice(price)) {
            refuse(BAD_NUMBER);
            return NO_PRICE;
        }
        int was = prices.plain;
        prices.plain = price;
        prices.lay(prices.today, planner.now);
        return accept(was);
    }

    public int at(int hour, int known) {
        if (!isHour(hour) || !isKnown(known)) {
            return NO_PRICE;
        }
        return prices.asKnown(hour, known);
    }

    public int home(int fuse) {
        if (!isWithin(fuse, MOST_FUSE)) {
            return refuse(BAD_NUMBER);
        }
        if (grid.size >= MOST_HOMES) {
            return refuse(NO_ROOM);
        }
        return accept(grid.addHome(fuse));
    }

    public int base(int home, int hour, int watts) {
        if (!isWithin(hour, DAY - 1) || !isWithin(watts, MOST_WATTS)) {
            return refuse(BAD_NUMBER);
        }
        if (!grid.has(home)) {
            return refuse(NO_SUCH);
        }
        grid.setBase(home, hour, watts);
        return accept(0);
    }

    public int cable(int watts) {
        if (!isWithin(watts, MOST_CABLE)) {
            return refuse(BAD_NUMBER);
        }
        int was = grid.cable;
        grid.cable = watts;
        return accept(was);
    }

    public int job(int home, int first, int last, int n, int a, int b, int c, int d) {
        if (!isHour(first) || !isHour(last) || last < first || last - first >= WINDOW || n < 1 || n > JOB_HOURS) {
            return refuse(BAD_NUMBER);
        }
        if (!isNeed(a) || n > 1 && !isNeed(b) || n > 2 && !isNeed(c) || n > 3 && !isNeed(d)) {
            return refuse(BAD_NUMBER);
        }
        if (!grid.has(home)) {
            return refuse(NO_SUCH);
        }
        if (jobs.size >= MOST_JOBS) {
            return refuse(NO_ROOM);
        }
        int job = jobs.add(home, first, last, n);
        jobs.setNeeds(job, a, b, c, d);
        return accept(job);
    }

    public int of(int job, int what) {
        if (!jobs.has(job)) {
            return NONE;
        }
        switch (what) {
            case 0:
                return jobs.home[job];
            case 1:
                return jobs.first[job];
            case 2:
                return jobs.last[job];
            case 3:
                return jobs.hours[job];
            case 4:
                return jobs.state[job];
            case 5:
                return jobs.begin[job];
            default:
                return what >= 10 && what < 10 + jobs.hours[job] ? jobs.need[job * JOB_HOURS + what - 10] : NONE;
        }
    }

    public int may(int job, int hour) {
        if (!jobs.has(job) || !isHour(hour) || jobs.state[job] == DONE) {
            return NONE;
        }
        return planner.mayBeginAsOpen(job, hour) ? 1 : 0;
    }

    public int put(int job, int hour) {
        if (!jobs.has(job)) {
            return refuse(NO_SUCH);
        }
        if (jobs.state[job] == DONE) {
            return refuse(BEGUN);
        }
        if (!planner.mayBeginAsOpen(job, hour)) {
            return refuse(NO_WAY);
        }
        jobs.reopen(job);
        jobs.plan(job, hour);
        return accept(0);
    }

    public long whole() {
        if (jobs.size - jobs.inState(DONE) > FEW) {
            return BEYOND + refuse(NO_ROOM);
        }
        if (!planner.planTogether()) {
            return BEYOND + refuse(NO_WAY);
        }
        accept(0);
        return planner.search.total;
    }

    public int each() {
        return planner.planOneByOne();
    }

    public int feed(int a, int b, int c, int d, int e) {
        if (reader.length > MOST_TAPE - 20) {
            return NONE;
        }
        reader.append(a);
        reader.append(b);
        reader.append(c);
        reader.append(d);
        reader.append(e);
        return reader.length;
    }

    public int end(int n) {
        if (n < 0 || n > reader.length) {
            return NONE;
        }
        reader.length = n;
        return n;
    }

    public int rules() {
        boolean read = reader.read(draft);
        faultPlace = read ? NONE : reader.start;
        reader.length = 0;
        if (!read) {
            return refuse(NO_WAY);
        }
        // The two sets change places, so that no call has to make a new one.
        Rules old = planner.rules;
        planner.rules = draft;
        draft = old;
        return accept(planner.rules.size);
    }

    public int fault() {
        return faultPlace;
    }

    public int go(int hours) {
        if (hours < 1 || hours > MOST_STEP || planner.now + hours >= HOURS) {
            return refuse(BAD_NUMBER);
        }
        planner.now += hours;
        jobs.beginBefore(planner.now);
        prices.lay(prices.today, planner.now);
        return accept(planner.now);
    }

    public int load(int home, int hour) {
        return grid.has(home) && isHour(hour) ? grid.draws(home, hour) : NONE;
    }

    public long cost(int job, int known) {
        if (!jobs.has(job) || jobs.state[job] == OPEN || !isKnown(known)) {
            return 0;
        }
        prices.lay(prices.asked, known);
        return jobs.costFrom(job, jobs.begin[job], prices.asked);
    }

    public long saved(int known) {
        if (!isKnown(known)) {
            return 0;
        }
        prices.lay(prices.asked, known);
        long sum = 0;
        for (int job = 0; job < jobs.size; job++) {
            if (jobs.state[job] == DONE) {
                sum += jobs.costFrom(job, jobs.first[job], prices.asked);
                sum -= jobs.costFrom(job, jobs.begin[job], prices.asked);
            }
        }
        return sum;
    }

    public int store(int home, int most, int level, int in, int out, int loss, int watts) {
        if (most < 1 || most > MOST_LEVEL || !isWithin(level, most) || watts < 1 || watts > MOST_STORE_WATTS) {
            return refuse(BAD_NUMBER);
        }
        if (!isWithin(in, MOST_MOVE) || !isWithin(out, MOST_MOVE) || !isWithin(loss, MOST_LOSS)) {
            return refuse(BAD_NUMBER);
        }
        if (!grid.has(home)) {
            return refuse(NO_SUCH);
        }
        if (stores.size >= MOST_STORES) {
            return refuse(NO_ROOM);
        }
        int store = stores.add(home, most, level);
        stores.setFlow(store, in, out, loss, watts);
        return accept(store);
    }

    public int level(int store, int level) {
        if (!isWithin(level, stores.mostOf(store))) {
            return refuse(BAD_NUMBER);
        }
        if (!stores.has(store)) {
            return refuse(NO_SUCH);
        }
        int was = stores.level[store];
        stores.level[store] = level;
        return accept(was);
    }

    public long fill(int store, int n, int wish) {
        if (n < 1 || n > MOST_STEP || planner.now + n > HOURS || !isWithin(wish, stores.mostOf(store))) {
            return BEYOND + refuse(BAD_NUMBER);
        }
        if (!stores.has(store)) {
            return BEYOND + refuse(NO_SUCH);
        }
        long cost = stores.cheapest(store, planner.now, n, wish);
        if (cost == FAR) {
            return BEYOND + refuse(NO_WAY);
        }
        stores.keep(store, n);
        accept(0);
        return cost;
    }

    public int filled(int i, int what) {
        if (i < 0 || i >= stores.kept) {
            return NO_FILLING;
        }
        if (what == 0) {
            return stores.moved[i];
        }
        return what == 1 ? stores.left[i] : NO_FILLING;
    }

    public int count(int what) {
        switch (what) {
            case 0:
                return planner.now;
            case 1:
                return grid.size;
            case 2:
                return jobs.size;
            case 3:
                return prices.size;
            case 4:
                return planner.rules.size;
            case 5:
                return stores.size;
            case 6:
                return reader.length;
            case 7:
                return jobs.inState(OPEN);
            case 8:
                return jobs.inState(PLANNED);
            case 9:
                return jobs.inState(DONE);
            default:
                return NONE;
        }
    }

    public int status() {
        return refusal;
    }

    private int refuse(int code) {
        refusal = code;
        return code;
    }

    private int accept(int answer) {
        refusal = 0;
        return answer;
    }

    private static boolean isWithin(int number, int most) {
        return number >= 0 && number <= most;
    }

    private static boolean isHour(int hour) {
        return isWithin(hour, HOURS - 1);
    }

    private static boolean isKnown(int known) {
        return isWithin(known, LAST_KNOWN);
    }

    private static boolean isPrice(int price) {
        return price >= LOWEST_PRICE && price <= HIGHEST_PRICE;
    }

    private static boolean isNeed(int watts) {
        return isWithin(watts, MOST_WATTS);
    }

    /** The prices in the order in which they were told. */
    private static final class Prices {
        final int[] hour = new int[MOST_PRICES];
        final int[] price = new int[MOST_PRICES];
        final int[] known = new int[MOST_PRICES];
        /** As known in NOW: kept up whenever a price, PLAIN or NOW changes, since every plan asks for it. */
        final int[] today = new int[HOURS];
        /** As known in the hour that a call asks for. */
        final int[] asked = new int[HOURS];
        int size;
        int plain;

        Prices() {
            size = 0;
            plain = FIRST_PLAIN;
            Arrays.fill(today, FIRST_PLAIN);
        }

        void tell(int ofHour, int newPrice, int knownIn) {
            hour[size] = ofHour;
            price[size] = newPrice;
            known[size] = knownIn;
            size++;
        }

        int asKnown(int ofHour, int knownIn) {
            for (int i = size - 1; i >= 0; i--) {
                if (hour[i] == ofHour && known[i] <= knownIn) {
                    return price[i];
                }
            }
            return plain;
        }

        void lay(int[] row, int knownIn) {
            Arrays.fill(row, plain);
            for (int i = 0; i < size; i++) {
                if (known[i] <= knownIn) {
                    row[hour[i]] = price[i];
                }
            }
        }
    }

    /** The homes and the cable, and what is drawn there in each hour. */
    private static final class Grid {
        final int[] fuse = new int[MOST_HOMES];
        final int[] base = new int[MOST_HOMES * DAY];
        final int[] drawn = new int[MOST_HOMES * HOURS];
        final int[] baseOfAll = new int[DAY];
        final int[] drawnByAll = new int[HOURS];
        int size;
        int cable;

        Grid() {
            size = 0;
            cable = MOST_CABLE;
        }

        boolean has(int home) {
            return home >= 0 && home < size;
        }

        int addHome(int newFuse) {
            fuse[size] = newFuse;
            size++;
            return size - 1;
        }

        void setBase(int home, int hourOfDay, int watts) {
            baseOfAll[hourOfDay] += watts - base[home * DAY + hourOfDay];
            base[home * DAY + hourOfDay] = watts;
        }

        int draws(int home, int hour) {
            return base[home * DAY + hour % DAY] + drawn[home * HOURS + hour];
        }

        int allDraw(int hour) {
            return baseOfAll[hour % DAY] + drawnByAll[hour];
        }

        boolean bears(int home, int hour, int watts) {
            return draws(home, hour) + watts <= fuse[home] && allDraw(hour) + watts <= cable;
        }

        void draw(int home, int hour, int watts) {
            drawn[home * HOURS + hour] += watts;
            drawnByAll[hour] += watts;
        }
    }

    /** The jobs; what planned and done ones need is drawn from the grid. */
    private static final class Jobs {
        final Grid grid;
        final int[] home = new int[MOST_JOBS];
        final int[] first = new int[MOST_JOBS];
        final int[] last = new int[MOST_JOBS];
        final int[] hours = new int[MOST_JOBS];
        final int[] need = new int[MOST_JOBS * JOB_HOURS];
        final int[] state = new int[MOST_JOBS];
        final int[] begin = new int[MOST_JOBS];
        int size;

        Jobs(Grid itsGrid) {
            grid = itsGrid;
            size = 0;
        }

        boolean has(int job) {
            return job >= 0 && job < size;
        }

        int add(int itsHome, int firstHour, int lastHour, int itsHours) {
            home[size] = itsHome;
            first[size] = firstHour;
            last[size] = lastHour;
            hours[size] = itsHours;
            state[size] = OPEN;
            begin[size] = NONE;
            size++;
            return size - 1;
        }

        void setNeeds(int job, int a, int b, int c, int d) {
            need[job * JOB_HOURS] = a;
            need[job * JOB_HOURS + 1] = b;
            need[job * JOB_HOURS + 2] = c;
            need[job * JOB_HOURS + 3] = d;
        }

        int inState(int wanted) {
            int found = 0;
            for (int job = 0; job < size; job++) {
                if (state[job] == wanted) {
                    found++;
                }
            }
            return found;
        }

        /** For a job that is open: a planned one would be drawn twice. */
        void plan(int job, int hour) {
            state[job] = PLANNED;
            begin[job] = hour;
            draw(job, hour, 1);
        }

        void reopen(int job) {
            if (state[job] == PLANNED) {
                draw(job, begin[job], -1);
                state[job] = OPEN;
                begin[job] = NONE;
            }
        }

        void draw(int job, int hour, int times) {
            for (int k = 0; k < hours[job]; k++) {
                grid.draw(home[job], hour + k, times * need[job * JOB_HOURS + k]);
            }
        }

        void beginBefore(int now) {
            for (int job = 0; job < size; job++) {
                if (state[job] == PLANNED && begin[job] < now) {
                    state[job] = DONE;
                }
            }
        }

        boolean isBorne(int job, int hour) {
            for (int k = 0; k < hours[job]; k++) {
                if (!grid.bears(home[job], hour + k, need[job * JOB_HOURS + k])) {
                    return false;
                }
            }
            return true;
        }

        /** Hours beyond the last one cost nothing: a plain day may go there. */
        long costFrom(int job, int hour, int[] row) {
            long sum = 0;
            for (int k = 0; k < hours[job] && hour + k < HOURS; k++) {
                sum += need[job * JOB_HOURS + k] * row[hour + k];
            }
            return sum;
        }
    }

    /** What the rules come to: only these sums of them are ever asked for. */
    private static final class Rules {
        /** A bit for each hour of the day. */
        final int[] quiet = new int[MOST_HOMES];
        /** Of each job a bit for each job that it has to be before. */
        final int[] before = new int[MOST_JOBS];
        int dear;
        int size;

        Rules() {
            dear = HIGHEST_PRICE;
            size = 0;
        }

        void wipe() {
            Arrays.fill(quiet, 0);
            Arrays.fill(before, 0);
            dear = HIGHEST_PRICE;
            size = 0;
        }

        void addQuiet(int home, int from, int to) {
            for (int hour = 0; hour < DAY; hour++) {
                boolean late = hour >= from;
                boolean early = hour <= to;
                if (from <= to ? late && early : late || early) {
                    quiet[home] |= 1 << hour;
                }
            }
        }

        boolean isQuiet(int home, int hourOfDay) {
            return (quiet[home] >> hourOfDay & 1) != 0;
        }

        boolean isBefore(int job, int other) {
            return (before[job] >> other & 1) != 0;
        }
    }

    /** The tape, and the reading of rules from it, token by token. */
    private static final class Reader {
        private static final int OTHER = 0;
        private static final int LETTER = 1;
        private static final int DIGIT = 2;
        /** Above every number that a rule takes, so that long rows of digits stop growing there. */
        private static final int TOO_MUCH = 100000;

        final int[] tape = new int[MOST_TAPE];
        int length;
        /** Where the token at hand begins; the text's length at its end. */
        int start;
        int stop;

        Reader() {
            length = 0;
            start = 0;
            stop = 0;
        }

        void append(int four) {
            for (int shift = 24; shift >= 0 && length < MOST_TAPE; shift -= 8) {
                tape[length] = four >> shift & 255;
                length++;
            }
        }

        /** If it can't be read, the token at hand is the fault. */
        boolean read(Rules into) {
            into.wipe();
            stop = 0;
            next();
            if (start >= length) {
                return true;
            }
            for (int i = 0; i < MOST_RULES; i++) {
                if (!readRule(into)) {
                    return false;
                }
                into.size++;
                if (start >= length) {
                    return true;
                }
                if (!take(";")) {
                    return false;
                }
            }
            return false;
        }

        private boolean readRule(Rules into) {
            if (take("quiet")) {
                return readQuiet(into);
            }
            if (take("dear")) {
                return readDear(into);
            }
            return take("job") && readBefore(into);
        }

        private boolean readQuiet(Rules into) {
            int home = takeNumber(MOST_HOMES - 1);
            if (home == NONE || !take("from")) {
                return false;
            }
            int from = takeNumber(DAY - 1);
            if (from == NONE || !take("to")) {
                return false;
            }
            int to = takeNumber(DAY - 1);
            if (to == NONE) {
                return false;
            }
            into.addQuiet(home, from, to);
            return true;
        }

        private boolean readDear(Rules into) {
            int most = takeNumber(HIGHEST_PRICE);
            if (most == NONE) {
                return false;
            }
            into.dear = Math.min(into.dear, most);
            return true;
        }

        private boolean readBefore(Rules into) {
            int job = takeNumber(MOST_JOBS - 1);
            if (job == NONE || !take("before") || number() == job) {
                return false;
            }
            int other = takeNumber(MOST_JOBS - 1);
            if (other == NONE) {
                return false;
            }
            into.before[job] |= 1 << other;
            return true;
        }

        private boolean take(String token) {
            if (stop - start != token.length()) {
                return false;
            }
            for (int i = 0; i < token.length(); i++) {
                if (tape[start + i] != token.charAt(i)) {
                    return false;
                }
            }
            next();
            return true;
        }

        private int takeNumber(int most) {
            int number = number();
            if (number == NONE || number > most) {
                return NONE;
            }
            next();
            return number;
        }

        private int number() {
            if (start >= length || kindOf(tape[start]) != DIGIT) {
                return NONE;
            }
            int number = 0;
            for (int i = start; i < stop; i++) {
                number = Math.min(TOO_MUCH, number * 10 + tape[i] - '0');
            }
            return number;
        }

        private void next() {
            start = stop;
            while (start < length && tape[start] == BLANK) {
                start++;
            }
            stop = start;
            if (start >= length) {
                return;
            }
            int kind = kindOf(tape[start]);
            stop++;
            while (kind != OTHER && stop < length && kindOf(tape[stop]) == kind) {
                stop++;
            }
        }

        private static int kindOf(int sign) {
            if (sign >= 'a' && sign <= 'z') {
                return LETTER;
            }
            return sign >= '0' && sign <= '9' ? DIGIT : OTHER;
        }
    }

    /** When a job may begin, and the plans that follow from it. */
    private static final class Planner {
        final Prices prices;
        final Jobs jobs;
        final Search search;
        Rules rules;
        int now;

        Planner(Prices itsPrices, Grid itsGrid, Jobs itsJobs) {
            prices = itsPrices;
            jobs = itsJobs;
            search = new Search(itsGrid, itsJobs);
            rules = new Rules();
            now = 0;
        }

        boolean mayBeginAsOpen(int job, int hour) {
            int planned = jobs.begin[job];
            jobs.reopen(job);
            boolean may = mayBegin(job, hour);
            if (planned != NONE) {
                jobs.plan(job, planned);
            }
            return may;
        }

        /** For a job that is open. */
        private boolean mayBegin(int job, int hour) {
            int hours = jobs.hours[job];
            if (hour < now || hour < jobs.first[job] || hour > jobs.last[job] || hour + hours > HOURS) {
                return false;
            }
            for (int t = hour; t < hour + hours; t++) {
                if (rules.isQuiet(jobs.home[job], t % DAY) || prices.today[t] > rules.dear) {
                    return false;
                }
            }
            return isInTurn(job, hour) && jobs.isBorne(job, hour);
        }

        private boolean isInTurn(int job, int hour) {
            for (int other = 0; other < jobs.size; other++) {
                if (jobs.state[other] == OPEN) {
                    continue;
                }
                int begin = jobs.begin[other];
                if (rules.isBefore(job, other) && begin < hour + jobs.hours[job]) {
                    return false;
                }
                if (rules.isBefore(other, job) && hour < begin + jobs.hours[other]) {
                    return false;
                }
            }
            return true;
        }

        /** How many stay open. */
        int planOneByOne() {
            for (int job = 0; job < jobs.size; job++) {
                jobs.reopen(job);
            }
            for (int job = 0; job < jobs.size; job++) {
                int hour = jobs.state[job] == OPEN ? cheapestHour(job) : NONE;
                if (hour != NONE) {
                    jobs.plan(job, hour);
                }
            }
            return jobs.inState(OPEN);
        }

        private int cheapestHour(int job) {
            int best = NONE;
            long least = FAR;
            for (int hour = jobs.first[job]; hour <= jobs.last[job]; hour++) {
                if (mayBegin(job, hour)) {
                    long cost = jobs.costFrom(job, hour, prices.today);
                    if (cost < least) {
                        least = cost;
                        best = hour;
                    }
                }
            }
            return best;
        }

        /** For at most FEW jobs that are not done; if there is no way, all stays as it was. */
        boolean planTogether() {
            search.clear();
            for (int job = 0; job < jobs.size; job++) {
                if (jobs.state[job] != DONE) {
                    search.addJob(job, jobs.begin[job]);
                    jobs.reopen(job);
                }
            }
            for (int i = 0; i < search.size; i++) {
                offerHours(i);
            }
            boolean found = search.prepare(rules) && search.walkTwice();
            for (int i = 0; i < search.size; i++) {
                int job = search.job[i];
                int hour = found ? jobs.first[job] + search.best[i] : search.former[i];
                if (hour != NONE) {
                    jobs.plan(job, hour);
                }
            }
            return found;
        }

        private void offerHours(int i) {
            int job = search.job[i];
            for (int hour = jobs.first[job]; hour <= jobs.last[job]; hour++) {
                if (mayBegin(job, hour)) {
                    search.offer(i, hour - jobs.first[job], jobs.costFrom(job, hour, prices.today));
                }
            }
        }
    }

    /**
     * The cheapest way for few jobs. A place is an hour, counted from the first of its job's window, so that the
     * places of a job are the bits of one int. The first walk takes the cheapest places first, which soon finds the
     * least sum; the second takes the hours in order and stops at the first way with that sum.
     */
    private static final class Search {
        final Grid grid;
        final Jobs jobs;
        final int[] job = new int[FEW];
        /** Where the jobs were planned before the search. */
        final int[] former = new int[FEW];
        final int[] offers = new int[FEW];
        final int[] byHour = new int[FEW * WINDOW];
        final int[] byCost = new int[FEW * WINDOW];
        final long[] cost = new long[FEW * WINDOW];
        /** Of a job in a place, for each other job: the places that go together with it. */
        final int[] fitting = new int[FEW * WINDOW * FEW];
        /** Of a level of the walk, for each job: the places that the jobs ahead of that level leave. */
        final int[] free = new int[(FEW + 1) * FEW];
        /** Of a level: the least that the jobs from there on can cost. */
        final long[] rest = new long[FEW + 1];
        final int[] place = new int[FEW];
        final int[] best = new int[FEW];
        int size;
        long total;
        /** Only what costs less is looked at. */
        long bound;
        boolean inOrder;

        Search(Grid itsGrid, Jobs itsJobs) {
            grid = itsGrid;
            jobs = itsJobs;
            size = 0;
            total = 0;
            bound = FAR;
            inOrder = false;
        }

        void clear() {
            size = 0;
            Arrays.fill(offers, 0);
            Arrays.fill(free, 0);
            Arrays.fill(fitting, 0);
        }

        void addJob(int newJob, int itsFormer) {
            if (size < FEW) {
                job[size] = newJob;
                former[size] = itsFormer;
                size++;
            }
        }

        /** Places come in the order of their hours. */
        void offer(int i, int newPlace, long itsCost) {
            int row = i * WINDOW;
            cost[row + newPlace] = itsCost;
            free[i] |= 1 << newPlace;
            byHour[row + offers[i]] = newPlace;
            int k = offers[i];
            while (k > 0 && cost[row + byCost[row + k - 1]] > itsCost) {
                byCost[row + k] = byCost[row + k - 1];
                k--;
            }
            byCost[row + k] = newPlace;
            offers[i]++;
        }

        /** What any two jobs leave each other; false if some job is left no place at all. */
        boolean prepare(Rules rules) {
            for (int i = 0; i < size; i++) {
                for (int j = i + 1; j < size; j++) {
                    matchPair(i, j, rules);
                }
            }
            boolean thinned = true;
            for (int round = 0; thinned && round < FEW * WINDOW; round++) {
                thinned = thinOut();
            }
            rest[0] = 0;
            for (int i = 0; i < size; i++) {
                if (free[i] == 0) {
                    return false;
                }
                rest[0] += leastOf(i, free[i]);
            }
            return true;
        }

        boolean walkTwice() {
            total = FAR;
            bound = FAR;
            inOrder = false;
            walk(0, 0);
            if (total == FAR) {
                return false;
            }
            bound = total + 1;
            inOrder = true;
            walk(0, 0);
            return true;
        }

        private void matchPair(int i, int j, Rules rules) {
            boolean before = rules.isBefore(job[i], job[j]);
            boolean behind = rules.isBefore(job[j], job[i]);
            for (int a = 0; a < offers[i]; a++) {
                int p = byHour[i * WINDOW + a];
                int begin = jobs.first[job[i]] + p;
                int end = begin + jobs.hours[job[i]];
                for (int b = 0; b < offers[j]; b++) {
                    int q = byHour[j * WINDOW + b];
                    int otherBegin = jobs.first[job[j]] + q;
                    int otherEnd = otherBegin + jobs.hours[job[j]];
                    if (before && otherBegin < end || behind && begin < otherEnd) {
                        continue;
                    }
                    if (otherBegin >= end || begin >= otherEnd || areBorne(job[i], begin, job[j], otherBegin)) {
                        fitting[(i * WINDOW + p) * FEW + j] |= 1 << q;
                        fitting[(j * WINDOW + q) * FEW + i] |= 1 << p;
                    }
                }
            }
        }

        private boolean areBorne(int one, int begin, int other, int otherBegin) {
            int from = Math.max(begin, otherBegin);
            int to = Math.min(begin + jobs.hours[one], otherBegin + jobs.hours[other]);
            int home = jobs.home[one];
            for (int t = from; t < to; t++) {
                int watts = jobs.need[one * JOB_HOURS + t - begin] + jobs.need[other * JOB_HOURS + t - otherBegin];
                if (grid.allDraw(t) + watts > grid.cable) {
                    return false;
                }
                if (home == jobs.home[other] && grid.draws(home, t) + watts > grid.fuse[home]) {
                    return false;
                }
            }
            return true;
        }

        /** Places that some other job leaves no way for are dropped, or the walk would come upon each many times. */
        private boolean thinOut() {
            boolean thinned = false;
            for (int i = 0; i < size; i++) {
                for (int a = 0; a < offers[i]; a++) {
                    int p = byHour[i * WINDOW + a];
                    if ((free[i] >> p & 1) != 0 && !hasPartners(i, p)) {
                        free[i] &= ~(1 << p);
                        thinned = true;
                    }
                }
            }
            return thinned;
        }

        private boolean hasPartners(int i, int p) {
            for (int j = 0; j < size; j++) {
                if (j != i && (fitting[(i * WINDOW + p) * FEW + j] & free[j]) == 0) {
                    return false;
                }
            }
            return true;
        }

        private long leastOf(int i, int places) {
            for (int k = 0; k < offers[i]; k++) {
                int p = byCost[i * WINDOW + k];
                if ((places >> p & 1) != 0) {
                    return cost[i * WINDOW + p];
                }
            }
            return FAR;
        }

        private void walk(int level, long spent) {
            if (level >= size || level >= FEW) {
                keepWay(spent);
                return;
            }
            int places = free[level * FEW + level];
            long others = rest[level] - leastOf(level, places);
            for (int k = 0; k < offers[level]; k++) {
                int p = inOrder ? byHour[level * WINDOW + k] : byCost[level * WINDOW + k];
                long sum = spent + cost[level * WINDOW + p];
                if ((places >> p & 1) == 0 || sum + others >= bound || !narrow(level, p)) {
                    continue;
                }
                if (sum + rest[level + 1] < bound) {
                    step(level, p, sum);
                }
            }
        }

        /** Two jobs that do not go together never come here, but three may still be too much. */
        private void step(int level, int p, long sum) {
            int hour = jobs.first[job[level]] + p;
            if (!jobs.isBorne(job[level], hour)) {
                return;
            }
            place[level] = p;
            jobs.draw(job[level], hour, 1);
            walk(level + 1, sum);
            jobs.draw(job[level], hour, -1);
        }

        private boolean narrow(int level, int p) {
            long least = 0;
            for (int j = level + 1; j < size; j++) {
                int places = free[level * FEW + j] & fitting[(level * WINDOW + p) * FEW + j];
                if (places == 0) {
                    return false;
                }
                free[(level + 1) * FEW + j] = places;
                least += leastOf(j, places);
            }
            rest[level + 1] = least;
            return true;
        }

        private void keepWay(long spent) {
            if (spent < bound) {
                System.arraycopy(place, 0, best, 0, FEW);
                total = spent;
                // In order, the first way that is found is the one: nothing may come after it.
                bound = inOrder ? -FAR : spent;
            }
        }
    }

    /** The stores, and the latest filling of one of them. */
    private static final class Stores {
        private static final int LEVELS = MOST_LEVEL + 1;

        final Prices prices;
        final Grid grid;
        final int[] home = new int[MOST_STORES];
        final int[] most = new int[MOST_STORES];
        final int[] level = new int[MOST_STORES];
        final int[] in = new int[MOST_STORES];
        final int[] out = new int[MOST_STORES];
        final int[] loss = new int[MOST_STORES];
        final int[] watts = new int[MOST_STORES];
        int size;
        /** The least cost from an hour on, by the level at its beginning; and the same for the hour behind it. */
        final long[] costs = new long[LEVELS];
        final long[] later = new long[LEVELS];
        /** For each hour and level at its beginning: what to put in. */
        final int[] choice = new int[MOST_STEP * LEVELS];
        final int[] moved = new int[MOST_STEP];
        final int[] left = new int[MOST_STEP];
        int kept;

        Stores(Prices itsPrices, Grid itsGrid) {
            prices = itsPrices;
            grid = itsGrid;
            size = 0;
            kept = 0;
        }

        boolean has(int store) {
            return store >= 0 && store < size;
        }

        /** Without the store, what the highest level of any could be. */
        int mostOf(int store) {
            return has(store) ? most[store] : MOST_LEVEL;
        }

        int add(int itsHome, int itsMost, int itsLevel) {
            home[size] = itsHome;
            most[size] = itsMost;
            level[size] = itsLevel;
            size++;
            return size - 1;
        }

        void setFlow(int store, int itsIn, int itsOut, int itsLoss, int itsWatts) {
            in[store] = itsIn;
            out[store] = itsOut;
            loss[store] = itsLoss;
            watts[store] = itsWatts;
        }

        /** From the last hour back to NOW; FAR if there is no way. */
        long cheapest(int store, int now, int n, int wish) {
            for (int l = 0; l <= most[store]; l++) {
                later[l] = l >= wish ? 0 : FAR;
            }
            for (int i = n - 1; i >= 0; i--) {
                choose(store, now + i, i * LEVELS);
                System.arraycopy(costs, 0, later, 0, LEVELS);
            }
            return later[level[store]];
        }

        private void choose(int store, int hour, int row) {
            int lowest = -mostOut(store, hour);
            int highest = mostIn(store, hour);
            int dues = watts[store] * prices.today[hour];
            for (int l = 0; l <= most[store]; l++) {
                int from = Math.max(lowest, -l);
                int to = Math.min(highest, most[store] - l);
                costs[l] = FAR;
                choice[row + l] = 0;
                for (int x = from; x <= to; x++) {
                    long behind = later[Math.max(0, l + x - loss[store])];
                    // The lowest comes first, so of moves that cost alike it is the one that stays.
                    if (behind != FAR && behind + (long) x * dues < costs[l]) {
                        costs[l] = behind + (long) x * dues;
                        choice[row + l] = x;
                    }
                }
            }
        }

        private int mostIn(int store, int hour) {
            int spare = grid.fuse[home[store]] - grid.draws(home[store], hour);
            return mostWithin(spare, in[store], watts[store]);
        }

        private int mostOut(int store, int hour) {
            return mostWithin(grid.draws(home[store], hour), out[store], watts[store]);
        }

        private static int mostWithin(int limit, int moves, int wattsOfLevel) {
            int levels = 0;
            while (levels < moves && (levels + 1) * wattsOfLevel <= limit) {
                levels++;
            }
            return levels;
        }

        void keep(int store, int n) {
            int now = level[store];
            for (int i = 0; i < n; i++) {
                moved[i] = choice[i * LEVELS + now];
                now = Math.max(0, now + moved[i] - loss[store]);
                left[i] = now;
            }
            kept = n;
        }
    }
}
