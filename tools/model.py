"""A second reading of ../shared/DOC.md, plain and slow: what tools/fuzz.py compares Pagedocument with."""
import copy
class IOOBE(Exception): pass
class IAE(Exception): pass
class ISE(Exception): pass
class Fault(Exception):
    def __init__(s,p): s.p=p
class Broken(Exception): pass
class Refused(Exception): pass
NONE=-1
def is_sign(c): return c==10 or 32<=c<=126
LET='ABCDEFGHIJKLMNOPQRSTUVWXYZabcdefghijklmnopqrstuvwxyz'
DIG='0123456789'
def skip(t,p):
    while p<len(t) and t[p] in ' \n': p+=1
    return p
def read_name(t,p):
    q=p+1
    while q<len(t) and t[q] in LET:
        if q-p-1==6: raise Fault(p)
        q+=1
    if q==p+1: raise Fault(q)
    return t[p+1:q],q
def parse(t,p,depth=0):
    p=skip(t,p)
    if p>=len(t): raise Fault(len(t))
    c=t[p]
    for w,v in (('null',('null',)),('true',('true',)),('false',('false',))):
        if c==w[0]:
            for k,ch in enumerate(w):
                if p+k>=len(t): raise Fault(len(t))
                if t[p+k]!=ch: raise Fault(p+k)
            return v,p+len(w)
    if c=='-' or c in DIG:
        q=p+(c=='-'); n=''
        while q<len(t) and t[q] in DIG:
            if len(n)==4: raise Fault(p)
            n+=t[q]; q+=1
        if not n: raise Fault(q)
        if c!='-' and 1<=int(n)<=60:
            r=q
            while r<len(t) and t[r]==' ': r+=1
            if r>q and r<len(t) and t[r]=='R': return ('R',int(n)),r+1
        return ('i',-int(n) if c=='-' else int(n)),q
    if c=='/':
        n,q=read_name(t,p)
        return ('n',n),q
    if c=='(':
        s='';q=p+1
        while True:
            if q>=len(t): raise Fault(len(t))
            d=t[q]
            if d==')': return ('s',s),q+1
            if d in '(\n': raise Fault(q)
            if d=='\\':
                q+=1
                if q>=len(t): raise Fault(len(t))
                d=t[q]
                if d not in '()\\': raise Fault(q)
            if len(s)==40: raise Fault(p)
            s+=d; q+=1
    if c=='[':
        if depth==5: raise Fault(p)
        items=[];q=p+1
        while True:
            q=skip(t,q)
            if q>=len(t): raise Fault(len(t))
            if t[q]==']': return ('r',items),q+1
            if len(items)==12 and (t[q] in 'ntf-/([<' or t[q] in DIG): raise Fault(p)
            v,q=parse(t,q,depth+1); items.append(v)
    if c=='<':
        if depth==5: raise Fault(p)
        if p+1>=len(t): raise Fault(len(t))
        if t[p+1]!='<': raise Fault(p+1)
        d={};q=p+2
        while True:
            q=skip(t,q)
            if q>=len(t): raise Fault(len(t))
            if t[q]=='>':
                if q+1>=len(t): raise Fault(len(t))
                if t[q+1]!='>': raise Fault(q+1)
                d={k:v for k,v in d.items() if v!=('null',)}
                if len(d)>10: raise Fault(p)
                return ('b',d),q+2
            if t[q]!='/': raise Fault(q)
            n,q=read_name(t,q)
            v,q=parse(t,q,depth+1)
            d[n]=v
    raise Fault(p)
def wr(v):
    k=v[0]
    if k in('null','true','false'): return k
    if k=='i': return str(v[1])
    if k=='n': return '/'+v[1]
    if k=='s': return '('+''.join('\\'+c if c in '()\\' else c for c in v[1])+')'
    if k=='r': return '['+' '.join(wr(x) for x in v[1])+']'
    if k=='b': return '<<'+' '.join('/'+n+' '+wr(v[1][n]) for n in sorted(v[1]))+'>>'
    if k=='R': return '%d R'%v[1]
def word(n):
    s=''
    while True:
        s='abcd'[n%4]+s; n//=4
        if n==0: return s
# filters
def mk(f,t):
    if f==0: return ''.join('%02x'%ord(c) for c in t)+'>'
    if f==1:
        o='';i=0
        while i<len(t):
            k=1
            while i+k<len(t) and t[i+k]==t[i] and k<9: k+=1
            if k>=3: o+='~%d%s'%(k,t[i]); i+=k
            else:
                for _ in range(k): o+='~1~' if t[i]=='~' else t[i]
                i+=k
        return o
    o='';i=0
    while i<len(t):
        best=None
        for L in range(9,2,-1):
            if i+L>len(t): continue
            for d in range(1,10):
                if d>i: break
                if all(t[i+j]==t[i+j-d] for j in range(L)): best=(d,L);break
            if best: break
        if best: o+='^%d%d'%best; i+=best[1]
        else: o+='^00' if t[i]=='^' else t[i]; i+=1
    return o
def un(f,t):
    if f==0:
        if '>' not in t: raise Broken()
        t=t[:t.index('>')].replace(' ','').replace('\n','')
        if any(c not in '0123456789abcdefABCDEF' for c in t): raise Broken()
        if len(t)%2: t+='0'
        o=''
        for i in range(0,len(t),2):
            c=int(t[i:i+2],16)
            if not is_sign(c): raise Broken()
            o+=chr(c)
    elif f==1:
        o='';i=0
        while i<len(t):
            if t[i]=='~':
                if i+2>=len(t) or t[i+1] not in '123456789': raise Broken()
                o+=t[i+2]*int(t[i+1]); i+=3
            else: o+=t[i]; i+=1
    else:
        o='';i=0
        while i<len(t):
            if t[i]=='^':
                if i+2>=len(t): raise Broken()
                a,b=t[i+1],t[i+2]
                if a+b=='00': o+='^'
                else:
                    if a not in '123456789' or b not in '123456789' or int(a)>len(o): raise Broken()
                    for _ in range(int(b)): o+=o[-int(a)]
                i+=3
            else: o+=t[i]; i+=1
    if len(o)>500: raise Broken()
    return o
FN={'Hex':0,'Run':1,'Back':2}; NF=['Hex','Run','Back']
class Obj:
    def __init__(s,v,data=None): s.v=v; s.data=data
    def __eq__(s,o): return o is not None and s.v==o.v and s.data==o.data
    def stream(s): return s.data is not None
    def book(s): return s.v[1] if s.v[0]=='b' else None     # BOOK or that of a STREAM
    def pure(s): return s.v[1] if s.v[0]=='b' and s.data is None else None
    def text(s):
        if not s.stream(): raise Broken()
        f=s.v[1].get('Filter')
        if f is None: return s.data
        if f[0]=='n': fs=[f]
        elif f[0]=='r': fs=f[1]
        else: raise Broken()
        if len(fs)>3: raise Broken()
        t=s.data
        for x in fs:
            if x[0]!='n' or x[1] not in FN: raise Broken()
            t=un(FN[x[1]],t)
        return t
def kind(b): 
    k=b.get('Kind') if b is not None else None
    return k[1] if k and k[0]=='n' else None
def refs(v):
    if v[0]=='R': yield v[1]
    elif v[0]=='r':
        for x in v[1]: yield from refs(x)
    elif v[0]=='b':
        for x in v[1].values(): yield from refs(x)
class Doc:
    def __init__(s):
        s.o={1:Obj(('b',{'Kind':('n','Root'),'Pages':('R',2)})),2:Obj(('b',{'Count':('i',0),'Kids':('r',[]),'Kind':('n','Tree')}))}
        s.root=1; s.lock=None; s.open=False; s.home=None; s.hometext=None; s.homeobj={}; s.homelock=None
    def reach(s,start=None):
        seen=set(); todo=[s.root] if start is None else list(start)
        while todo:
            n=todo.pop()
            if n in seen or n not in s.o: continue
            seen.add(n); todo+=list(refs(s.o[n].v))
        return seen
    def rootbook(s):
        return s.o[s.root].book() if s.root in s.o else None
    def pages(s):
        out=[];seen=set()
        def go(n,deep,inh):
            if deep>6 or n in seen or n not in s.o: return
            seen.add(n)
            b=s.o[n].pure()
            k=kind(b)
            if k not in('Tree','Page'): return
            inh=dict(inh)
            x=b.get('Box')
            if x and x[0]=='r' and len(x[1])==4 and all(y[0]=='i' for y in x[1]) and all(1<=y[1]<=40 for y in x[1][2:]): inh['Box']=tuple(y[1] for y in x[1])
            x=b.get('Turn')
            if x and x[0]=='i': inh['Turn']=x[1]%4
            x=b.get('Forms')
            if x and x[0]=='b': inh['Forms']=x[1]
            if k=='Page': out.append((n,inh['Box'],inh['Turn'],inh['Forms']));return
            kids=b.get('Kids')
            if kids and kids[0]=='r':
                for y in kids[1]:
                    if y[0]=='R': go(y[1],deep+1,inh)
        b=s.rootbook()
        if b is not None:
            p=b.get('Pages')
            if p and p[0]=='R': go(p[1],1,{'Box':(0,0,20,20),'Turn':0,'Forms':{}})
        return out
    def free(s):
        for n in range(1,61):
            if n not in s.o: return n
        raise Refused()
    def content(s,n):
        p=s.o[n].v[1].get('Parts')
        def t(x):
            if x[0]=='R' and x[1] in s.o:
                try: return s.o[x[1]].text()
                except Broken: return ''
            return ''
        if p is None: return ''
        if p[0]=='r': return '\n'.join(t(x) for x in p[1])
        return t(p)
    def paint(s,page):
        n,box,turn,forms=page
        marks=[];st={'begun':0,'fault':-1}
        def inter(a,b):
            x=max(a[0],b[0]);y=max(a[1],b[1]);r=min(a[0]+a[2],b[0]+b[2]);u=min(a[1]+a[3],b[1]+b[3])
            return (x,y,r-x,u-y) if r>x and u>y else None
        def run(t,level,g):
            heap=[];kept=[];p=0
            while True:
                p=skip(t,p)
                if p>=len(t): return -1
                c=t[p]
                if c in '(/-' or c in DIG:
                    try: v,q=parse(t,p)
                    except Fault: return p
                    if v[0]=='R' or len(heap)==8: return p
                    heap.append(v); p=q; continue
                ks=''.join(v[0] for v in heap)
                hv=[v[1] for v in heap]
                heap=[]
                def pt(x,y): return g['ox']+g['sc']*x,g['oy']+g['sc']*y
                if c=='q':
                    if ks or len(kept)==8: return p
                    kept.append(dict(g))
                elif c=='Q':
                    if ks or not kept: return p
                    g.update(kept.pop())
                elif c=='M':
                    if ks!='iii': return p
                    a,e,f=hv
                    ox,oy=pt(e,f)
                    if not 1<=a<=9 or g['sc']*a>9 or abs(ox)>9999 or abs(oy)>9999: return p
                    g['ox'],g['oy']=ox,oy; g['sc']*=a
                elif c in 'BC':
                    if ks!='iiii' or hv[2]<1 or hv[3]<1: return p
                    x,y=pt(hv[0],hv[1])
                    r=None if g['clip'] is None else inter((x,y,hv[2]*g['sc'],hv[3]*g['sc']),g['clip'])
                    if c=='C': g['clip']=r
                    elif r: marks.append(('B',)+r)
                elif c=='Z':
                    if ks!='i' or not 1<=hv[0]<=999: return p
                    g['size']=hv[0]
                elif c=='P':
                    if ks!='ii': return p
                    g['pen']=tuple(hv)
                elif c=='T':
                    if ks!='s' or g['size']*g['sc']>999: return p
                    for ch in hv[0]:
                        w=(1+ord(ch)%3)*g['size']
                        x,y=pt(*g['pen'])
                        cell=(x,y,w*g['sc'],g['size']*g['sc'])
                        if g['clip'] and inter(cell,g['clip']): marks.append((ch,)+cell) if ch!='B' else marks.append(('\0B',)+cell)
                        g['pen']=(g['pen'][0]+w,g['pen'][1])
                elif c=='X':
                    if ks!='n': return p
                    f=forms.get(hv[0])
                    if f and f[0]=='R' and f[1] in s.o and s.o[f[1]].stream() and kind(s.o[f[1]].book())=='Form' and level<4 and st['begun']<64:
                        try: ft=s.o[f[1]].text()
                        except Broken: ft=None
                        if ft is not None:
                            st['begun']+=1
                            run(ft,level+1,dict(g))
                else: return p
                p+=1
        fault=run(s.content(n),0,{'sc':1,'ox':0,'oy':0,'clip':box,'size':1,'pen':(0,0)})
        return marks[:24],fault
    def flatten(s):
        pages=s.pages()
        if s.root not in s.o or s.o[s.root].pure() is None or len(pages)>12: raise Refused()
        p=s.o[s.root].pure().get('Pages')
        t=p[1] if p and p[0]=='R' else None
        ok=t in s.o and t!=s.root and s.o[t].pure() is not None and kind(s.o[t].pure())!='Page'
        if not ok: t=s.free()
        for n,box,turn,forms in pages:
            b=dict(s.o[n].v[1])
            b['Box']=('r',[('i',x) for x in box])
            if turn: b['Turn']=('i',turn)
            else: b.pop('Turn',None)
            if forms: b['Forms']=('b',dict(forms))
            else: b.pop('Forms',None)
            s.setbook(n,b)
        s.tree=t; s.kids=[x[0] for x in pages]; s.setkids()
        if not ok:
            b=dict(s.o[s.root].v[1]); b['Pages']=('R',t); s.setbook(s.root,b)
    def setkids(s):
        if len(s.kids)>12: raise Refused()
        s.o[s.tree]=Obj(('b',{'Count':('i',len(s.kids)),'Kids':('r',[('R',k) for k in s.kids]),'Kind':('n','Tree')}))
    def setbook(s,n,b):
        if len(b)>10: raise Refused()
        s.o[n]=Obj(('b',b))
    def setstream(s,n,b,data):
        if len(b)>9 or len(data)>500: raise Refused()
        s.o[n]=Obj(('b',b),data)
    def merge(s,b):
        b.flatten(); s.flatten()
        pages=list(b.kids)
        if len(s.kids)+len(pages)>12: raise Refused()
        come=sorted(b.reach(pages))
        mp={}
        for n in come:
            f=None
            for m in range(1,61):
                if m not in s.o and m not in mp.values(): f=m;break
            if f is None: raise Refused()
            mp[n]=f
        def cv(v):
            if v[0]=='R': return ('R',mp[v[1]]) if v[1] in mp else ('null',)
            if v[0]=='r': return ('r',[cv(x) for x in v[1]])
            if v[0]=='b': return ('b',{k:cv(x) for k,x in v[1].items() if cv(x)!=('null',)})
            return v
        for n in come: s.o[mp[n]]=Obj(cv(b.o[n].v),b.o[n].data)
        s.kids+=[mp[n] for n in pages]; s.setkids()
        return len(s.kids)
    def notes(s,n):
        x=s.o[n].v[1].get('Notes'); out=[]
        if x and x[0]=='r':
            for y in x[1]:
                if y[0]=='b':
                    a=y[1].get('At');t=y[1].get('Say')
                    if a and a[0]=='r' and len(a[1])==2 and all(z[0]=='i' for z in a[1]) and t and t[0]=='s': out.append((a[1][0][1],a[1][1][1],t[1]))
        return out
    def lines(s):
        b=s.rootbook(); out=[]
        x=b.get('Lines') if b is not None else None
        if x and x[0]=='r':
            for y in x[1]:
                if y[0]=='b':
                    d=y[1].get('Deep');t=y[1].get('Title');r=y[1].get('To')
                    if d and d[0]=='i' and 0<=d[1]<=3 and t and t[0]=='s' and r and r[0]=='R': out.append((d[1],t[1],r[1]))
        return out
    def fields(s):
        b=s.rootbook(); out={}
        x=b.get('Fields') if b is not None else None
        if x and x[0]=='b':
            for k,y in x[1].items():
                if y[0]=='b':
                    m=y[1].get('Most');v=y[1].get('Value')
                    if m and m[0]=='i' and v and v[0]=='s': out[k]=(m[1],v[1])
        return out
    def isopen(s): return s.lock is None or s.open
    def lets(s,k): return s.isopen() or (s.lock[1]>>k)&1==1
def body(n,o):
    if o.stream():
        b=dict(o.v[1]); b['Len']=('i',len(o.data))
        return '%d o\n%s\ndata\n%s\nend\n'%(n,wr(('b',b)),o.data)
    return '%d o\n%s\nend\n'%(n,wr(o.v))
def trailer(d,size,prev):
    b={'Root':('R',d.root),'Size':('i',size)}
    if prev is not None: b['Prev']=('i',prev)
    if d.lock: b['Lock']=('b',{'Code':('i',d.lock[0]),'Lets':('i',d.lock[1])})
    return wr(('b',b))
def write(d,packed):
    come=sorted(d.reach())
    for n in come:
        if d.o[n].stream() and kind(d.o[n].book())=='Pack': raise Refused()
    bodies={n:d.o[n] for n in come}; where={}
    if packed:
        flat=[n for n in come if not d.o[n].stream()]
        free=[n for n in range(1,61) if n not in d.o]
        for k in range(0,len(flat),4):
            g=flat[k:k+4]
            if not free: raise Refused()
            m=free.pop(0)
            t=''.join('%d %s\n'%(n,wr(d.o[n].v)) for n in g)
            if len(t)>500: raise Refused()
            da=mk(1,t)
            if len(da)>500: raise Refused()
            for i,n in enumerate(g): where[n]='p%d.%d'%(m,i); del bodies[n]
            bodies[m]=Obj(('b',{'Count':('i',len(g)),'Kind':('n','Pack'),'Filter':('n','Run')}),da)
    t='%D1\n'
    for n in sorted(bodies):
        where[n]=str(len(t)); t+=body(n,bodies[n])
    at=len(t)
    t+='table\n'+''.join('%d %s\n'%(n,where[n]) for n in sorted(where))+'last\n'+trailer(d,max(come)+1 if come else 1,None)+'\nstart\n%d\n%%E\n'%at
    if len(t)>6000: raise Refused()
    return t
def num(t,p):
    q=p
    while q<len(t) and q<p+4 and t[q] in DIG: q+=1
    if q==p: raise Fault(p)
    return int(t[p:q]),q
def lit(t,p,w):
    if t[p:p+len(w)]!=w: raise Fault(p)
    return p+len(w)
def readbody(t,p):
    n,p=num(t,p)
    if not 1<=n<=60: raise Fault(p)
    p=lit(t,p,' o\n')
    v,p=parse(t,p)
    if t.startswith('\nend\n',p): return n,Obj(v),p+5
    p=lit(t,p,'\ndata\n')
    if v[0]!='b': raise Fault(p)
    L=v[1].get('Len')
    if not L or L[0]!='i' or not 0<=L[1]<=500 or p+L[1]>len(t): raise Fault(p)
    b={k:x for k,x in v[1].items() if k!='Len'}
    o=Obj(('b',b),t[p:p+L[1]])
    return n,o,lit(t,p+L[1],'\nend\n')
def ispack(o): return o.stream() and kind(o.book())=='Pack'
def packlines(t):
    p=0
    while p<len(t):
        try:
            n,p=num(t,p)
            if not 1<=n<=60: raise Fault(0)
            p=lit(t,p,' ')
            v,p=parse(t,p)
            p=lit(t,p,'\n')
        except Fault:
            return
        yield n,Obj(v)
import re
def endstart(t):
    m=re.search(r'start\n(\d{1,4})\n%E\n\Z',t,re.A)
    return int(m.group(1)) if m else None
def table(t,at,newest):
    """returns entries, trailer or raises (fault)"""
    try:
        p=lit(t,at,'table\n')
        ent={};last=0
        while p<len(t) and t[p] in DIG:
            n,p=num(t,p)
            if not last<n<=60: raise Fault(p)
            last=n
            p=lit(t,p,' ')
            if t.startswith('-',p): ent[n]='-'; p+=1
            elif t.startswith('p',p):
                a,p=num(t,p+1); p=lit(t,p,'.'); b,p=num(t,p); ent[n]=('p',a,b)
            else: ent[n],p=num(t,p)
            p=lit(t,p,'\n')
        p=lit(t,p,'last\n')
    except Fault: return 3,None,None
    try: v,p=parse(t,p)
    except Fault: return 4,None,None
    if v[0]!='b' or newest and v[1].get('Root',('x',))[0]!='R': return 4,None,None
    try:
        p=lit(t,p,'\nstart\n'); _,p=num(t,p); p=lit(t,p,'\n%E\n')
    except Fault: return 3,None,None
    return 0,ent,v[1]
def readfile(t):
    if not t.startswith('%D1\n'): return 1,None
    at=endstart(t)
    if at is None: return 2,None
    if at>len(t): return 3,None
    first=at; tabs=[]; newest=True
    while True:
        f,ent,tr=table(t,at,newest)
        if f: return (f if newest else 4),None
        tabs.append((ent,tr)); newest=False
        pv=tr.get('Prev')
        if pv is None: break
        if pv[0]!='i' or not 0<=pv[1]<at: return 4,None
        at=pv[1]
    d=Doc(); d.o={}
    for n in range(1,61):
        for ent,tr in tabs:
            if n in ent:
                e=ent[n]
                if e=='-': break
                try:
                    if isinstance(e,int):
                        m,o,_=readbody(t,e)
                        if m!=n: return 5,None
                        if not ispack(o): d.o[n]=o
                    else:
                        pl=ent.get(e[1])
                        if not isinstance(pl,int): return 5,None
                        m,o,_=readbody(t,pl)
                        if m!=e[1] or not ispack(o): return 5,None
                        ls=list(packlines(o.text()))
                        if e[2]>=len(ls) or ls[e[2]][0]!=n: return 5,None
                        d.o[n]=ls[e[2]][1]
                except (Fault,Broken): return 5,None
                break
    tr=tabs[0][1]
    d.root=tr['Root'][1]
    if d.root not in d.o: return 6,None
    L=tr.get('Lock')
    if L and L[0]=='b':
        a,b=L[1].get('Code'),L[1].get('Lets')
        if a and b and a[0]=='i' and b[0]=='i': d.lock=(a[1],b[1])
    d.start=first
    return 0,d
def repair(t):
    bodies={};cands=[];p=0
    while p<len(t):
        try:
            n,o,q=readbody(t,p); bodies[n]=o; p=q; continue
        except Fault: pass
        try:
            v,_=parse(t,p)
            if v[0]=='b' and v[1].get('Root',('x',))[0]=='R': cands.append(v[1]['Root'][1])
        except Fault: pass
        q=t.find('\n',p)
        if q<0: break
        p=q+1
    d=Doc(); d.o={n:o for n,o in bodies.items() if not ispack(o)}
    for n in sorted(bodies):
        if ispack(bodies[n]):
            try: x=bodies[n].text()
            except Broken: continue
            for m,o in packlines(x):
                if m not in bodies: d.o[m]=o
    for r in reversed(cands):
        if r in d.o: d.root=r; return d
    for n in sorted(d.o):
        if kind(d.o[n].pure())=='Root': d.root=n; return d
    raise Refused()
WORDS={200:"/Kind ",201:"/Page",202:"/Tree",203:"/Kids ",204:"/Count ",205:"/Box ",206:"/Turn ",207:"/Parts ",208:"/Forms ",209:"/Filter ",210:"/Form",211:"/Pages ",212:"/Root",213:"/Pack",214:"/Hex",215:"/Run",216:"/Back",217:"<<",218:">>",219:" R",220:"/Notes ",221:"/Lines ",222:"/Fields "}
def change(fn):
    def g(s,*a):
        old=copy.deepcopy(s.docs)
        try: r=fn(s,*a)
        except Refused: r=-9
        except: s.docs=old; raise
        if r<0: s.docs=old
        else: s.past.append(old); s.past=s.past[-4:]
        return r
    return g
def rng(v,a,b): return a<=v<=b
class M:
    def __init__(s):
        s.ln='';s.files=['']*4;s.docs=[Doc(),Doc()];s.past=[];s.kn=0
    def D(s,d):
        if d not in(0,1): raise IOOBE
        return s.docs[d]
    def F(s,f):
        if f not in range(4): raise IOOBE
        return s.files[f]
    def P(s,d,p):
        D=s.D(d); ps=D.pages()
        if not 0<=p<len(ps): raise IOOBE
        return D,ps[p]
    def N(s,o):
        if not 1<=o<=60: raise IOOBE
    def say(s,*cs):
        for c in cs:
            if not(c==-1 or is_sign(c) or c in WORDS or c in(300,301)): raise IAE
        t=s.ln
        for c in cs:
            if c==-1: continue
            if c==300: t=''
            elif c==301: t=t[:-1]
            elif c in WORDS: t+=WORDS[c]
            else: t+=chr(c)
            if len(t)>200: raise ISE
        s.ln=t
        return len(t)
    def line(s): return s.ln
    def fault(s):
        try: v,p=parse(s.ln,0)
        except Fault as f: return f.p
        p=skip(s.ln,p)
        return p if p<len(s.ln) else -1
    def written(s):
        return '-' if s.fault()!=-1 else wr(parse(s.ln,0)[0])
    def filtered(s,f,u):
        if not 0<=f<=2: raise IAE
        try: t=un(f,s.ln) if u else mk(f,s.ln)
        except Broken: return '-'
        return '-' if len(t)>500 else t
    def size(s,f): return len(s.F(f))
    def text(s,f,a):
        t=s.F(f)
        if not 0<=a<=len(t): raise IOOBE
        return t[a:a+100]
    def place(s,f,a):
        t=s.F(f)
        if not 0<=a<=len(t): raise IOOBE
        return t.find(s.ln,a)
    def hurt(s,f,p,c):
        t=s.F(f)
        if not 0<=p<len(t): raise IOOBE
        if not is_sign(c): raise IAE
        s.files[f]=t[:p]+chr(c)+t[p+1:]
        return ord(t[p])
    def cut(s,f,n):
        t=s.F(f)
        if not 0<=n<=len(t): raise IOOBE
        s.files[f]=t[:n]; return len(t)-n
    def put(s,f,p):
        t=s.F(f)
        if not 0<=p<=len(t): raise IOOBE
        if len(t)+len(s.ln)>6000: return -9
        s.files[f]=t[:p]+s.ln+t[p:]; return len(s.files[f])
    def copyFile(s,a,b):
        s.F(a); s.files[a]=s.F(b); return len(s.files[a])
    @change
    def fresh(s,d):
        n=len(s.D(d).o); s.docs[d]=Doc(); return n
    def write(s,d,f,p):
        D=s.D(d); s.F(f)
        try: t=write(D,p)
        except Refused: return -9
        s.files[f]=t; s.home(D,f,t,D.reach()); return len(t)
    def home(s,D,f,t,come):
        D.home=f; D.hometext=t; D.homeobj={n:copy.deepcopy(D.o[n]) for n in come}; D.homelock=D.lock
    def update(s,d):
        D=s.D(d)
        if D.home is None or s.files[D.home]!=D.hometext: return -9
        come=sorted(D.reach())
        if any(ispack(D.o[n]) for n in come): return -9
        new=[n for n in come if n not in D.homeobj or not D.homeobj[n]==D.o[n]]
        gone=[n for n in D.homeobj if n not in come]
        if not new and not gone and D.lock==D.homelock: return 0
        t=D.hometext; where={n:'-' for n in gone}
        for n in new: where[n]=str(len(t)); t+=body(n,D.o[n])
        at=len(t)
        size=max(list(come)+list(D.homeobj)+[0])+1
        t+='table\n'+''.join('%d %s\n'%(n,where[n]) for n in sorted(where))+'last\n'+trailer(D,size,endstart(D.hometext))+'\nstart\n%d\n%%E\n'%at
        if len(t)>6000: return -9
        s.files[D.home]=t; s.home(D,D.home,t,come); return len(t)
    @change
    def read(s,f,d):
        t=s.F(f); s.D(d)
        x,D=readfile(t)
        if x: return -x
        s.docs[d]=D; s.home(D,f,t,list(D.o)); return len(D.o)
    @change
    def repair(s,f,d):
        t=s.F(f); s.D(d)
        s.docs[d]=repair(t); return len(s.docs[d].o)
    def faultOf(s,f): return readfile(s.F(f))[0]
    def object(s,d,n):
        D=s.D(d); s.N(n)
        if n not in D.o: return ''
        return wr(D.o[n].v)+(' data' if D.o[n].stream() else '')
    def data(s,d,n,t):
        D=s.D(d); s.N(n)
        if n not in D.o or not D.o[n].stream(): return '-'
        try: return D.o[n].text() if t else D.o[n].data
        except Broken: return '-'
    def isReached(s,d,n):
        D=s.D(d); s.N(n); return n in D.reach()
    @change
    def define(s,d,n):
        D=s.D(d); s.N(n)
        if not D.lets(1): return -9
        if s.fault()!=-1: return -7
        r=int(n in D.o); D.o[n]=Obj(parse(s.ln,0)[0]); return r
    @change
    def stream(s,d,n):
        D=s.D(d); s.N(n)
        if not D.lets(1): return -9
        r=int(n in D.o)
        b=dict(D.o[n].book() or {}) if n in D.o else {}
        b.pop('Filter',None); b.pop('Len',None)
        D.setstream(n,b,s.ln); return r
    @change
    def drop(s,d,n):
        D=s.D(d); s.N(n)
        if not D.lets(1): return -9
        return int(D.o.pop(n,None) is not None)
    @change
    def filter(s,d,n,a,b,c):
        D=s.D(d); s.N(n)
        if not all(-1<=x<=2 for x in(a,b,c)) or a==-1 and (b!=-1 or c!=-1) or b==-1 and c!=-1: raise IAE
        if not D.lets(1) or n not in D.o or not D.o[n].stream(): return -9
        try: t=D.o[n].text()
        except Broken: return -9
        bk=dict(D.o[n].book())
        for x in(c,b,a):
            if x!=-1:
                t=mk(x,t)
                if len(t)>500: return -9
        if a==-1: bk.pop('Filter',None)
        else: bk['Filter']=('r',[('n',NF[x]) for x in(a,b,c) if x!=-1])
        D.setstream(n,bk,t); return len(t)
    @change
    def sweep(s,d):
        D=s.D(d)
        if not D.lets(1): return -9
        r=D.reach(); g=[n for n in D.o if n not in r]
        for n in g: del D.o[n]
        return len(g)
    def ofPage(s,d,p,w):
        D,pg=s.P(d,p)
        if not 0<=w<=8: raise IAE
        if w==0: return pg[0]
        if w<=4: return pg[1][w-1]
        if w==5: return pg[2]
        if w==8: return len(D.notes(pg[0]))
        m,f=D.paint(pg)
        return len(m) if w==6 else f
    def mt(s,m):
        if m[0]=='B': return 'B %d %d %d %d'%m[1:]
        return 'L %s %d %d %d %d'%(('B' if m[0]=='\0B' else m[0],)+m[1:])
    def mark(s,d,p,k):
        D,pg=s.P(d,p); m=D.paint(pg)[0]
        if not 0<=k<len(m): raise IOOBE
        return s.mt(m[k])
    def drawn(s,d,p,r):
        D,pg=s.P(d,p); m=D.paint(pg)[0]; x,y,w,h=pg[1]
        rows=[]
        for yy in range(y+h-1,y-1,-1):
            row=''
            for xx in range(x,x+w):
                c='.'
                for k in m:
                    if k[1]<=xx<k[1]+k[3] and k[2]<=yy<k[2]+k[4]: c='#' if k[0]=='B' else 'B' if k[0]=='\0B' else k[0]
                row+=c
            rows.append(row)
        for _ in range(pg[2]): rows=[''.join(rows[len(rows)-1-j][i] for j in range(len(rows))) for i in range(len(rows[0]))]
        if not 0<=r<len(rows): raise IOOBE
        return rows[r]
    def content(s,d,p):
        D,pg=s.P(d,p); return D.content(pg[0])
    def find(s,d,p,w,k):
        D,pg=s.P(d,p)
        if not 0<=w<=999 or k<0: raise IAE
        m=D.paint(pg)[0]; W=word(w); out=[]
        for i in range(len(m)-len(W)+1):
            g=m[i:i+len(W)]
            if all(a[0]==c for a,c in zip(g,W)) and all(a[2]==b[2] and a[4]==b[4] and b[1]==a[1]+a[3] for a,b in zip(g,g[1:])): out.append(i)
        return out[k] if k<len(out) else -1
    @change
    def newPage(s,d,at,w,h):
        D=s.D(d)
        if not 0<=at<=len(D.pages()) or not rng(w,1,40) or not rng(h,1,40): raise IAE
        if not D.lets(0): return -9
        D.flatten(); n=D.free(); D.o[n]=Obj(('b',{'Kind':('n','Page'),'Box':('r',[('i',0),('i',0),('i',w),('i',h)])}))
        D.kids.insert(at,n); D.setkids(); return n
    @change
    def movePage(s,d,p,to):
        s.P(d,p); D,_=s.P(d,to)
        if not D.lets(0): return -9
        D.flatten(); n=D.kids.pop(p); D.kids.insert(to,n); D.setkids(); return n
    @change
    def dropPage(s,d,p):
        D,_=s.P(d,p)
        if not D.lets(0): return -9
        D.flatten(); D.kids.pop(p); D.setkids(); return len(D.kids)
    @change
    def turnPage(s,d,p,q):
        D,pg=s.P(d,p)
        if not 0<=q<=3: raise IAE
        if not D.lets(0): return -9
        b=dict(D.o[pg[0]].v[1]); b['Turn']=('i',(pg[2]+q)%4); D.setbook(pg[0],b); return (pg[2]+q)%4
    @change
    def boxPage(s,d,p,x,y,w,h):
        D,pg=s.P(d,p)
        if not(rng(x,-99,99) and rng(y,-99,99) and rng(w,1,40) and rng(h,1,40)): raise IAE
        if not D.lets(0): return -9
        b=dict(D.o[pg[0]].v[1]); b['Box']=('r',[('i',z) for z in(x,y,w,h)]); D.setbook(pg[0],b)
        return len(D.paint(D.pages()[p])[0])
    def part(s,D,n,t):
        m=D.free(); D.setstream(m,{},t)
        b=dict(D.o[n].v[1]); p=b.get('Parts')
        row=list(p[1]) if p and p[0]=='r' else [p] if p and p[0]=='R' else []
        row.append(('R',m))
        if len(row)>12: raise Refused()
        b['Parts']=('r',row); D.setbook(n,b); return m
    @change
    def addPart(s,d,p):
        D,pg=s.P(d,p)
        if not D.lets(1): return -9
        return s.part(D,pg[0],s.ln)
    @change
    def addText(s,d,p,x,y,z,w):
        D,pg=s.P(d,p)
        if not(rng(x,-99,99) and rng(y,-99,99) and rng(z,1,9) and rng(w,0,999)): raise IAE
        if not D.lets(1): return -9
        s.part(D,pg[0],'%d Z %d %d P (%s) T'%(z,x,y,word(w)))
        return len(D.paint(D.pages()[p])[0])
    @change
    def addBox(s,d,p,x,y,w,h):
        D,pg=s.P(d,p)
        if not(rng(x,-99,99) and rng(y,-99,99) and rng(w,1,99) and rng(h,1,99)): raise IAE
        if not D.lets(1): return -9
        s.part(D,pg[0],'%d %d %d %d B'%(x,y,w,h))
        return len(D.paint(D.pages()[p])[0])
    @change
    def form(s,d,p,l):
        D,pg=s.P(d,p)
        if not 0<=l<=25: raise IAE
        if not D.lets(1): return -9
        m=D.free(); D.setstream(m,{'Kind':('n','Form')},s.ln)
        f=dict(pg[3]); f[chr(65+l)]=('R',m)
        if len(f)>10: raise Refused()
        b=dict(D.o[pg[0]].v[1]); b['Forms']=('b',f); D.setbook(pg[0],b); return m
    @change
    def black(s,d,p,x,y,w,h):
        D,pg=s.P(d,p)
        if not(rng(x,-99,99) and rng(y,-99,99) and rng(w,1,99) and rng(h,1,99)): raise IAE
        if not D.lets(1): return -9
        ms=D.paint(pg)[0]
        left=[m for m in ms if not(m[1]<x+w and x<m[1]+m[3] and m[2]<y+h and y<m[2]+m[4])]
        if len(left)==len(ms): return 0
        t='\n'.join('%d %d %d %d B'%m[1:] if m[0]=='B' else '%d Z %d %d P %s T'%(m[4],m[1],m[2],wr(('s',m[0][-1]))) for m in left)
        if len(t)>500: return -9
        n=D.free(); D.setstream(n,{},t)
        b=dict(D.o[pg[0]].v[1]); b['Parts']=('r',[('R',n)]); b['Forms']=('b',{}); D.setbook(pg[0],b)
        return len(ms)-len(left)
    @change
    def merge(s,d):
        D=s.D(d)
        if not D.lets(0): return -9
        return D.merge(copy.deepcopy(s.docs[1-d]))
    @change
    def split(s,d,a,b):
        s.P(d,a); D,_=s.P(d,b)
        if b<a: raise IAE
        c=copy.deepcopy(D); c.flatten(); c.kids=c.kids[a:b+1]; c.setkids()
        s.docs[1-d]=Doc()
        return s.docs[1-d].merge(c)
    @change
    def note(s,d,p,x,y,w):
        D,pg=s.P(d,p)
        if not(rng(x,-99,99) and rng(y,-99,99) and rng(w,0,999)): raise IAE
        if not D.lets(2): return -9
        b=dict(D.o[pg[0]].v[1]); r=b.get('Notes'); r=list(r[1]) if r and r[0]=='r' else []
        r.append(('b',{'At':('r',[('i',x),('i',y)]),'Say':('s',word(w))}))
        if len(r)>12: raise Refused()
        b['Notes']=('r',r); D.setbook(pg[0],b)
        return sum(z[0]=='b' for z in r)
    def noteOf(s,d,p,k):
        D,pg=s.P(d,p); n=D.notes(pg[0])
        if not 0<=k<len(n): raise IOOBE
        return '%d,%d %s'%n[k]
    def rootb(s,D):
        if D.root not in D.o or D.o[D.root].pure() is None: raise Refused()
        return dict(D.o[D.root].pure())
    @change
    def title(s,d,deep,w,p):
        D,pg=s.P(d,p)
        if not rng(deep,0,3) or not rng(w,0,999): raise IAE
        if not D.lets(2): return -9
        b=s.rootb(D); r=b.get('Lines'); r=list(r[1]) if r and r[0]=='r' else []
        r.append(('b',{'Deep':('i',deep),'Title':('s',word(w)),'To':('R',pg[0])}))
        if len(r)>12: raise Refused()
        b['Lines']=('r',r); D.setbook(D.root,b); return len(D.lines())
    def lineOf(s,d,k):
        D=s.D(d); l=D.lines()
        if not 0<=k<len(l): raise IOOBE
        ns=[x[0] for x in D.pages()]
        return '>'*l[k][0]+l[k][1]+' '+(str(ns.index(l[k][2])) if l[k][2] in ns else '-')
    def putfield(s,D,n,v):
        b=s.rootb(D); r=b.get('Fields'); r=dict(r[1]) if r and r[0]=='b' else {}
        r[n]=v
        if len(r)>10: raise Refused()
        b['Fields']=('b',r); D.setbook(D.root,b)
    @change
    def field(s,d,l,m):
        D=s.D(d)
        if not rng(l,0,25) or not rng(m,1,9): raise IAE
        if not D.lets(2): return -9
        s.putfield(D,chr(65+l),('b',{'Most':('i',m),'Value':('s','')})); return len(D.fields())
    @change
    def fill(s,d,l,w):
        D=s.D(d)
        if not rng(l,0,25) or not rng(w,0,999): raise IAE
        if not D.lets(2): return -9
        f=D.fields().get(chr(65+l))
        if f is None or len(word(w))>f[0]: return -9
        v=dict(s.docs[d].rootbook()['Fields'][1][chr(65+l)][1]); v['Value']=('s',word(w))
        s.putfield(D,chr(65+l),('b',v)); return len(word(w))
    def valueOf(s,d,l):
        D=s.D(d)
        if not rng(l,0,25): raise IAE
        f=D.fields().get(chr(65+l)); return '-' if f is None else f[1]
    @change
    def lock(s,d,k,l):
        D=s.D(d)
        if not rng(k,-1,999) or not rng(l,0,7): raise IAE
        if not D.isopen(): return -9
        r=int(D.lock is not None); D.lock=None if k==-1 else ((k*7+3)%97,l); D.open=True; return r
    def open(s,d,k):
        D=s.D(d)
        if not rng(k,0,999): raise IAE
        if D.lock and D.lock[0]==(k*7+3)%97: D.open=True
        return int(D.isopen())
    def undo(s):
        if not s.past: raise ISE
        s.docs=s.past.pop(); return len(s.past)
    def ofDoc(s,d,w):
        D=s.D(d)
        if not rng(w,0,9): raise IAE
        return [lambda:len(D.o),lambda:len(D.reach()),lambda:len(D.pages()),lambda:D.root,lambda:len(D.lines()),lambda:len(D.fields()),lambda:int(D.lock is not None),lambda:int(D.isopen()),lambda:-1 if D.home is None else D.home,lambda:7 if D.lock is None else D.lock[1]][w]()
    def alike(s):
        a,b=s.docs; k=0
        for x,y in zip(a.pages(),b.pages()):
            if x[1:3]!=y[1:3] or a.paint(x)[0]!=b.paint(y)[0]: break
            k+=1
        return k
    def house(s,w):
        if not rng(w,0,3): raise IAE
        return [len(s.ln),sum(map(len,s.files)),len(s.past),s.kn][w]
    def knock(s): s.kn+=1; return s.kn
    def isSound(s):
        for D in s.docs:
            if D.root not in D.o: continue
            try: t=write(D,False)
            except Refused: continue
            come={n:D.o[n] for n in D.reach()}
            x,E=readfile(t)
            if x or E.o!=come or E.root!=D.root: return False
            E=repair(t)
            if E.o!=come or E.root!=D.root: return False
            try: t=write(D,True)
            except Refused: t=None
            if t is not None:
                x,E=readfile(t)
                if x or E.o!=come or E.root!=D.root: return False
            for o in D.o.values():
                if o.stream():
                    try: t=o.text()
                    except Broken: continue
                    for f in range(3):
                        q=mk(f,t)
                        if len(q)<=500 and un(f,q)!=t: return False
            c=copy.deepcopy(D)
            try: c.flatten()
            except Refused: continue
            p1=D.pages();p2=c.pages()
            if len(p1)!=len(p2) or any(a[1:3]!=b[1:3] or D.paint(a)[0]!=c.paint(b)[0] for a,b in zip(p1,p2)): return False
        return True
    def digest(s):
        d=[7611]
        def v(x): d[0]=(d[0]*31+int(x))&0xFFFFFFFFFFFFFFFF
        def t(x):
            v(len(x))
            for c in x: v(ord(c))
        for k in range(4): v(s.house(k))
        t(s.ln)
        for f in range(4): v(s.faultOf(f)); t(s.files[f])
        for k in range(2):
            D=s.docs[k]
            for w in range(10): v(s.ofDoc(k,w))
            for n in range(1,61): t(s.object(k,n)); t(s.data(k,n,False))
            for p in range(len(D.pages())):
                for w in range(9): v(s.ofPage(k,p,w))
                for m in D.paint(D.pages()[p])[0]: t(s.mt(m))
                for j in range(s.ofPage(k,p,8)): t(s.noteOf(k,p,j))
            for j in range(len(D.lines())): t(s.lineOf(k,j))
        v(s.alike()); v(s.isSound())
        r=d[0]
        return r-(1<<64) if r>>63 else r
def call(m,name,args):
    try: r=getattr(m,name)(*args)
    except IOOBE: return 'throws.IndexOutOfBoundsException'
    except IAE: return 'throws.IllegalArgumentException'
    except ISE: return 'throws.IllegalStateException'
    if r is True or r is False: return '1' if r else '0'
    if isinstance(r,str): return 's'+''.join(c if 32<=ord(c)<=126 and c!='\\' else '\\%02x'%ord(c) for c in r)
    return str(r)
